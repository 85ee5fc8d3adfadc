/-! the reference: deeds, minutes -/
def mG (M : zM) (g : zGc) : zM := (g, M.2)
def mB (M : zM) (g : zGc) (B : Nat → Int32) : zM := (g, M.2.1, va_up M.2.2.1 38 B, M.2.2.2)
theorem mB_A {M : zM} {g : zGc} {B : Nat → Int32} {j : Nat} {v : Int32} : mA (mB M g B) 38 j v = mB M g (upd B j v) := by
  unfold mA mB
  simp only [va_up_self, va_up_up]
theorem mB_id {M : zM} : mB M M.1 (M.2.2.1 38) = M := by
  unfold mB
  rw [va_up_id]
theorem mB_mB {M : zM} {g g2 : zGc} {B B2 : Nat → Int32} : mB (mB M g B) g2 B2 = mB M g2 B2 := by
  unfold mB
  simp only [va_up_up]
def bgN (g : zGc) (B : Nat → Int32) (n : Nat) : Nat → Int32 := fun s => if s < n then g.2.1 s 3 else B s
theorem bgN_s {g : zGc} {B : Nat → Int32} {n : Nat} : bgN g B (n + 1) = upd (bgN g B n) n (g.2.1 n 3) := by
  funext q
  by_cases h : q = n
  · subst h; simp [bgN, upd]
  · have : q < n + 1 ↔ q < n := by omega
    simp [bgN, upd, h, this]
theorem mB_0 {M : zM} : mB M M.1 (bgN M.1 (M.2.2.1 38) 0) = M := by
  have e : bgN M.1 (M.2.2.1 38) 0 = M.2.2.1 38 := by funext q; simp [bgN]
  rw [e, mB_id]
theorem edN_1 {B : Nat → Int32} {g : zGc} : ∀ {n : Nat}, (edN B n g).1 = g.1
  | 0 => rfl
  | n + 1 => by show (edS B n (edN B n g)).1 = g.1; unfold edS; split <;> exact edN_1
def mBuy (g : zGc) (c : Nat) (p : Int32) : Bool := if inR p (g.1 0) = true then canBuy g c p.toNatClampNeg (askS g p.toNatClampNeg) else false
theorem mBuy_nI {g : zGc} {c k : Nat} (h : k < nS g) (hz : gz g) : mBuy g c (nI k) = canBuy g c k (askS g k) := by
  have h6 := hz.1.2
  unfold mBuy
  rw [if_pos (by rw [hz.1.1]; exact inR_nI h (by omega)), nI_clamp (by omega)]
theorem i_m10 {d : Int32} (h : ¬ d < 10) : ¬ d - 10 < 0 := by
  have e10 : (10 : Int32).toInt = 10 := rfl
  have e0 : (0 : Int32).toInt = 0 := rfl
  have hr := i_ran d
  rw [i_lt, e10] at h
  rw [i_lt, i_sub (by rw [e10]; omega) (by rw [e10]; omega), e10, e0]
  omega
theorem big16 {g : zGc} {d : Int32} (hz : gz g) (h : 16 ≤ d) : g.1 0 ≤ d - 10 := by
  have e10 : (10 : Int32).toInt = 10 := rfl
  have e16 : (16 : Int32).toInt = 16 := rfl
  have hr := i_ran d
  have h6 := hz.1.2
  rw [i_le, e16] at h
  rw [hz.1.1, i_le, i_sub (by rw [e10]; omega) (by rw [e10]; omega), e10, nI_toInt (by omega)]
  omega
theorem can_mBuy {g : zGc} {c : Nat} {d : Int32} (h0 : ¬ d = 0) (h1 : ¬ d = 1) (h2 : ¬ d = 2) (h3 : ¬ d = 3) (h : ¬ d < 10) : can g c d = mBuy g c (d - 10) := by
  unfold can mBuy
  rw [if_neg h0, if_neg h1, if_neg h2, if_neg h3, if_neg h]
  by_cases q : g.1 0 ≤ d - 10
  · rw [if_pos q, if_neg (by rw [inR_f2 q]; decide)]
  · rw [if_neg q, if_pos (inR_t (i_m10 h) (Int32.not_le.mp q))]
    rfl
theorem mn9_a {x : Int32} (h : x ≤ 9999) : mn9 x = x := by
  unfold mn9
  by_cases q : x < 9999
  · rw [if_pos q]
  · rw [if_neg q]; exact (Int32.le_antisymm h (Int32.not_lt.mp q)).symm
theorem mn9_b {x : Int32} (h : ¬ x ≤ 9999) : mn9 x = 9999 := if_neg (fun z => h (Int32.le_of_lt z))
theorem mnI_a {x y : Int32} (h : y ≤ x) : mnI x y = y := by
  unfold mnI
  by_cases q : y < x
  · rw [if_pos q]
  · rw [if_neg q]; exact Int32.le_antisymm (Int32.not_lt.mp q) h
theorem mnI_b {x y : Int32} (h : ¬ y ≤ x) : mnI x y = x := if_neg (fun z => h (Int32.le_of_lt z))
theorem buyA_s {g : zGc} {c j : Nat} (h : isSt (g.2.1 j) = true) : buyA g c j = 0 := if_pos h
theorem buyA_a {g : zGc} {c j : Nat} (h : isSt (g.2.1 j) = false) (h2 : askS g j ≤ g.2.2 c 1) : buyA g c j = askS g j := by
  unfold buyA
  rw [if_neg (by rw [h]; decide)]
  by_cases q : asked (g.2.1 j) < g.2.2 c 1
  · rw [if_pos q]; rfl
  · rw [if_neg q]; exact Int32.le_antisymm (Int32.not_lt.mp q) h2
theorem buyA_b {g : zGc} {c j : Nat} (h : isSt (g.2.1 j) = false) (h2 : ¬ askS g j ≤ g.2.2 c 1) : buyA g c j = g.2.2 c 1 := by
  unfold buyA
  rw [if_neg (by rw [h]; decide)]
  exact if_neg (show ¬ asked (g.2.1 j) < g.2.2 c 1 from fun z => h2 (Int32.le_of_lt z))
theorem buy_end {M : zM} {B : zGc} {k : Nat} {a x : Int32} : mCh (mCh (mG M B) k 1 (mn9 ((mG M B).1.2.2 k 1 + x))) k 2 (mn9 ((mCh (mG M B) k 1 (mn9 ((mG M B).1.2.2 k 1 + x))).1.2.2 k 2 + a - x)) = mG M (gAdd B k x (a - x)) := by
  have e : (mCh (mG M B) k 1 (mn9 ((mG M B).1.2.2 k 1 + x))).1.2.2 k 2 = B.2.2 k 2 := by simp [mCh, mG, gCh, va_up, upd]
  rw [e, Int32.sub_eq_add_neg, Int32.add_assoc, ← Int32.sub_eq_add_neg]
  rfl
theorem rgC_st {f : Nat → Int32} (h : rgC f) : mn9 (f 2 + 0) = f 2 := by
  obtain ⟨-, -, ⟨q, hq, e2⟩, -⟩ := h
  rw [e2]; exact mn9_0 hq
theorem rgC_le {f : Nat → Int32} (h : rgC f) : ∃ p, p ≤ 9999 ∧ f 1 = nI p := h.2.1
theorem mk_1 {M : zM} {c : Nat} {t : Int32} (hst : mn9 (M.1.2.2 c 2 + 0) = M.1.2.2 c 2) : mCh (mK M 5 (M.1.1 5 - t)) c 1 (mn9 ((mK M 5 (M.1.1 5 - t)).1.2.2 c 1 + t)) = mG M (gAdd (gSc M.1 5 (M.1.1 5 - t)) c t 0) := by
  have e : gAdd (gSc M.1 5 (M.1.1 5 - t)) c t 0 = gCh (gSc M.1 5 (M.1.1 5 - t)) c 1 (mn9 (M.1.2.2 c 1 + t)) := by
    show gCh (gCh _ c 1 _) c 2 (mn9 (M.1.2.2 c 2 + 0)) = _
    rw [hst]
    exact gCh_same (by simp [gCh, gSc, va_up, upd])
  unfold mG
  rw [e]
  rfl
theorem st_2 {N : Nat} {g : zGc} {c : Nat} (h : rg N g) (hc : c < nC g) : mn9 (g.2.2 c 1 - mnI (g.1 4) (g.2.2 c 1) + 0) = g.2.2 c 1 - mnI (g.1 4) (g.2.2 c 1) := by
  obtain ⟨-, ⟨p, hp, e1⟩, -⟩ := h.2.1 c hc
  obtain ⟨i, hi, ei⟩ := h.2.2.1
  rw [e1, ei, mnI_r (by omega) (by omega), pk_sub (by omega)]
  exact mn9_0 (by omega)
theorem mk_2 {M : zM} {c : Nat} {t : Int32} (hl : mn9 (M.1.2.2 c 1 - t + 0) = M.1.2.2 c 1 - t) : mCh (mCh M c 1 (M.1.2.2 c 1 - t)) c 2 (mn9 ((mCh M c 1 (M.1.2.2 c 1 - t)).1.2.2 c 2 + t)) = mG M (gAdd (gCh M.1 c 1 (M.1.2.2 c 1 - t)) c 0 t) := by
  have e1 : (gCh M.1 c 1 (M.1.2.2 c 1 - t)).2.2 c 1 = M.1.2.2 c 1 - t := by simp [gCh, va_up, upd]
  have e : gAdd (gCh M.1 c 1 (M.1.2.2 c 1 - t)) c 0 t = gCh (gCh M.1 c 1 (M.1.2.2 c 1 - t)) c 2 (mn9 ((gCh M.1 c 1 (M.1.2.2 c 1 - t)).2.2 c 2 + t)) := by
    unfold gAdd
    rw [e1, hl, gCh_same e1]
  unfold mG
  rw [e]
  rfl
theorem mk_3 {M : zM} {c : Nat} {f : Int32} (hst : mn9 (M.1.2.2 c 2 + 0) = M.1.2.2 c 2) : mCh (mCh M c 3 f) c 1 (mn9 ((mCh M c 3 f).1.2.2 c 1 + 10)) = mG M (gAdd (gCh M.1 c 3 f) c 10 0) := by
  have e2 : (gCh M.1 c 3 f).2.2 c 2 = M.1.2.2 c 2 := by simp [gCh, va_up, upd]
  have e : gAdd (gCh M.1 c 3 f) c 10 0 = gCh (gCh M.1 c 3 f) c 1 (mn9 ((gCh M.1 c 3 f).2.2 c 1 + 10)) := by
    unfold gAdd
    rw [e2, hst]
    exact gCh_same (by simp [gCh, va_up, upd])
  unfold mG
  rw [e]
  rfl
theorem dd_lt {g : zGc} {d : Int32} (hz : gz g) (h : dd g d) (h1 : ¬ d = 1) (h2 : ¬ d = 2) (h3 : ¬ d = 3) (h4 : d < 10) : d = 0 := by
  have h6 := hz.1.2
  rcases h with h | h | h | h | ⟨s, hs, h⟩
  · exact h
  · exact absurd h h1
  · exact absurd h h2
  · exact absurd h h3
  · rw [h] at h4
    exact absurd h4 (i_10n (s := s) (by omega)).2.2.2.2
theorem dd_0 {d : Int32} (h : ¬ d < 10) : ¬ d = 0 := fun z => h (by rw [z]; decide)
theorem half_r {x : Nat} (hx : x ≤ 9999) : nI x - nI ((x + 1) / 2) = half (nI x) := by
  unfold half
  rw [pk_sub (by omega), show (2 : Int32) = nI 2 from rfl, pk_div (by omega) (by omega) (by omega)]
  congr 1
  omega
theorem half_s {x : Nat} (hx : x ≤ 9999) : nI x - half (nI x) = nI ((x + 1) / 2) := by
  unfold half
  rw [show (2 : Int32) = nI 2 from rfl, pk_div (by omega) (by omega) (by omega), pk_sub (by omega)]
  congr 1
  omega
theorem cheap_keep {g : zGc} {c k : Nat} {lim : Int32} (h : canBuy g c k (askS g k) = false ∨ lim < askS g k ∨ (∃ b, cheapN g c lim k = some b ∧ askS g b ≤ askS g k)) : cheapN g c lim (k + 1) = cheapN g c lim k := by
  simp only [cheapN]
  cases hq : cheapN g c lim k with
  | none =>
    simp only
    rcases h with h | h | ⟨b, hb, -⟩
    · rw [if_neg (fun z => absurd (h.symm.trans z.1) (by decide))]
    · rw [if_neg (fun z => absurd z.2 (Int32.not_le.mpr h))]
    · rw [hq] at hb; cases hb
  | some q =>
    simp only
    have hle := (cheapN_le hq).1
    rcases h with h | h | ⟨b, hb, h2⟩
    · rw [if_neg (fun z => absurd (h.symm.trans z.1) (by decide))]
    · rw [if_neg (fun z => absurd z.2 (Int32.not_lt.mpr (Int32.le_of_lt (Int32.lt_of_le_of_lt hle h))))]
    · rw [hq] at hb; cases hb
      rw [if_neg (fun z => absurd z.2 (Int32.not_lt.mpr h2))]
theorem cheap_tk {g : zGc} {c k : Nat} {lim : Int32} (h1 : canBuy g c k (askS g k) = true) (h2 : ¬ lim < askS g k) (h : cheapN g c lim k = none ∨ (∃ b, cheapN g c lim k = some b ∧ ¬ askS g b ≤ askS g k)) : cheapN g c lim (k + 1) = some k := by
  simp only [cheapN]
  rcases h with h | ⟨b, hb, h3⟩
  · rw [h]
    simp only
    rw [if_pos ⟨h1, Int32.not_lt.mp h2⟩]
  · rw [hb]
    simp only
    rw [if_pos ⟨h1, Int32.not_le.mp h3⟩]
theorem cheapN_none {g : zGc} {c n : Nat} {lim : Int32} (h : oI (cheapN g c lim n) = -1) (hn : n ≤ 6) : cheapN g c lim n = none := oI_m1 (n := n) (fun {w} hw => (cheapN_le hw).2) h (by omega)
theorem greedD_n {g : zGc} {c : Nat} {lim : Int32} (h : cheapN g c lim (nS g) = none) : greedD g c lim = por g := by unfold greedD cheap; rw [h]
theorem greedD_s {g : zGc} {c b : Nat} {lim : Int32} (h : cheapN g c lim (nS g) = some b) : greedD g c lim = nI (10 + b) := by unfold greedD cheap; rw [h]
theorem can_2 {g : zGc} {c : Nat} (h : can g c 2 = true) : 0 < g.1 4 ∧ 0 < g.2.2 c 1 := by
  have h2 : (decide (0 < g.1 4) && decide (0 < g.2.2 c 1)) = true := h
  simp only [Bool.and_eq_true, decide_eq_true_eq] at h2
  exact h2
theorem can_2n {g : zGc} {c : Nat} (hC : rgC (g.2.2 c)) (hlt : g.2.2 c 2 < g.2.2 c 1) (h : can g c 2 = false) : ¬ 0 < g.1 4 := by
  intro hi
  obtain ⟨-, ⟨p, hp, e1⟩, ⟨q, hq, e2⟩, -⟩ := hC
  rw [e1, e2] at hlt
  have h3 := (nI_ltI (by omega) (by omega)).mp hlt
  have h4 : (decide (0 < g.1 4) && decide (0 < g.2.2 c 1)) = false := h
  rw [e1, decide_eq_true hi, decide_eq_true (show (0 : Int32) < nI p from nI_lt (a := 0) (by omega) (by omega))] at h4
  cases h4
set_option maxRecDepth 100000 in
set_option maxHeartbeats 4000000 in
theorem jn_X7_asked {l : Launch} {E : zE} {K : zK} {s : State} (M : zM) {j : Nat} (hj : j < 6) (hs : sm (M.1.2.1 j)) (C0 : MR l E K cX7_asked RX7 1 s 4 (some .int) (fun v M2 => v = some (.int (askS M.1 j)) ∧ M2 = M)) : Z K (MP E (M) s) 134 [(0, .ref (madr E.2.2.1 (0, 0, 0))), (1, .int (nI j)), (2, .long (askL (M.1.2.1 j)))] [] := by
  have C := C0.c
  refine z_lload_n C 2 dX7_asked_134 rfl ?_
  refine z_lconst C (v := 1) dX7_asked_135 rfl ?_
  refine z_lcmp C dX7_asked_136 ?_
  refine z_if_ge C 144 dX7_asked_137 (by decide) (fun h137 => ?_) (fun h137 => ?_)
  · skip
    refine z_lload_n C 2 dX7_asked_144 rfl ?_
    refine z_ldc2 C dX7_asked_145 q_X7_217 ?_
    refine z_lcmp C dX7_asked_148 ?_
    refine z_if_le C 158 dX7_asked_149 (by decide) (fun h149 => ?_) (fun h149 => ?_)
    · skip
      refine z_lload_n C 2 dX7_asked_158 rfl ?_
      refine z_l2i C dX7_asked_159 ?_
      refine z_iret C0 dX7_asked_160 ?_
      refine ⟨?_, rfl⟩
      unfold askS
      rw [ask_md (lc_ge.mp h137) (lc_le.mp h149)]
    · skip
      refine z_sipush C (v := 9999) dX7_asked_152 rfl ?_
      refine z_goto C 160 dX7_asked_155 (by decide) ?_
      refine z_iret C0 dX7_asked_160 ?_
      refine ⟨?_, rfl⟩
      unfold askS
      rw [ask_hi (Classical.not_not.mp (fun z => h149 (lc_le.mpr z)))]
  · skip
    refine z_iconst C (v := 1) dX7_asked_140 rfl ?_
    refine z_goto C 160 dX7_asked_141 (by decide) ?_
    refine z_iret C0 dX7_asked_160 ?_
    refine ⟨?_, rfl⟩
    unfold askS
    rw [ask_lo (Classical.not_not.mp (fun z => h137 (lc_ge.mpr z)))]
set_option maxRecDepth 100000 in
set_option maxHeartbeats 4000000 in
theorem c_X7_asked (l : Launch) (E : zE) (M : zM) {j : Nat} (hj : j < 6) (hs : sm (M.1.2.1 j)) : MM l E yX7_asked cX7_asked 4 (some .int) 1 [.ref (madr E.2.2.1 (0, 0, 0)), .int (nI j)] (M) (fun v M2 => v = some (.int (askS M.1 j)) ∧ M2 = M) := by
  refine MM.mk kq_X7 (Nat.le_of_ble_eq_true rfl) (fun K s C0 => ?_)
  have C := C0.c
  refine z_aload_n C 0 dX7_asked_0 rfl ?_
  refine mg_12 C dX7_asked_1 ?_
  refine z_iload_n C 1 dX7_asked_4 rfl ?_
  refine ml_12 C j rfl (by first | assumption | omega) dX7_asked_5 ?_
  refine z_i2l C dX7_asked_6 ?_
  refine z_lstore_n (i := 2) C dX7_asked_7 rfl (by decide) ?_
  refine z_aload_n C 1 dX7_asked_8 rfl ?_
  refine mg_10 C dX7_asked_9 ?_
  refine z_iload_n C 2 dX7_asked_12 rfl ?_
  refine ml_10 C j rfl (by first | assumption | omega) dX7_asked_13 ?_
  refine z_case (1) (fun h14_1 => ?_) (fun h14_1 => ?_)
  · refine z_tabIn C (1) (38) 52 h14_1 dX7_asked_14 (by decide) (by decide) ?_
    refine z_lload_n C 0 dX7_asked_52 rfl ?_
    refine z_aload_n C 1 dX7_asked_53 rfl ?_
    refine mg_11 C dX7_asked_54 ?_
    refine z_iload_n C 2 dX7_asked_57 rfl ?_
    refine ml_11 C j rfl (by first | assumption | omega) dX7_asked_58 ?_
    refine z_aload_n C 1 dX7_asked_59 rfl ?_
    refine mg_13 C dX7_asked_60 ?_
    refine z_iload_n C 2 dX7_asked_63 rfl ?_
    refine ml_13 C j rfl (by first | assumption | omega) dX7_asked_64 ?_
    refine z_imul C dX7_asked_65 ?_
    refine z_i2l C dX7_asked_66 ?_
    refine z_ladd C dX7_asked_67 ?_
    refine z_lstore_n (i := 2) C dX7_asked_68 rfl (by decide) ?_
    refine z_goto C 134 dX7_asked_69 (by decide) ?_
    refine z_pick [1, 2, 0] rfl ?_
    have q := jn_X7_asked M hj hs C0
    rw [askL_1 hs h14_1] at q
    exact q
  refine z_case (2) (fun h14_2 => ?_) (fun h14_2 => ?_)
  · refine z_tabIn C (2) (87) 101 h14_2 dX7_asked_14 (by decide) (by decide) ?_
    refine z_lload_n C 0 dX7_asked_101 rfl ?_
    refine z_aload_n C 1 dX7_asked_102 rfl ?_
    refine mg_11 C dX7_asked_103 ?_
    refine z_iload_n C 2 dX7_asked_106 rfl ?_
    refine ml_11 C j rfl (by first | assumption | omega) dX7_asked_107 ?_
    refine z_aload_n C 1 dX7_asked_108 rfl ?_
    refine mg_14 C dX7_asked_109 ?_
    refine z_iload_n C 2 dX7_asked_112 rfl ?_
    refine ml_14 C j rfl (by first | assumption | omega) dX7_asked_113 ?_
    refine z_imul C dX7_asked_114 ?_
    refine z_i2l C dX7_asked_115 ?_
    refine z_lsub C dX7_asked_116 ?_
    refine z_lstore_n (i := 2) C dX7_asked_117 rfl (by decide) ?_
    refine z_goto C 134 dX7_asked_118 (by decide) ?_
    refine z_pick [1, 2, 0] rfl ?_
    have q := jn_X7_asked M hj hs C0
    rw [askL_2 hs h14_2] at q
    exact q
  refine z_case (3) (fun h14_3 => ?_) (fun h14_3 => ?_)
  · refine z_tabIn C (3) (58) 72 h14_3 dX7_asked_14 (by decide) (by decide) ?_
    refine z_lload_n C 0 dX7_asked_72 rfl ?_
    refine z_aload_n C 1 dX7_asked_73 rfl ?_
    refine mg_11 C dX7_asked_74 ?_
    refine z_iload_n C 2 dX7_asked_77 rfl ?_
    refine ml_11 C j rfl (by first | assumption | omega) dX7_asked_78 ?_
    refine z_i2l C dX7_asked_79 ?_
    refine z_aload_n C 1 dX7_asked_80 rfl ?_
    refine mg_13 C dX7_asked_81 ?_
    refine z_iload_n C 2 dX7_asked_84 rfl ?_
    refine ml_13 C j rfl (by first | assumption | omega) dX7_asked_85 ?_
    refine z_i2l C dX7_asked_86 ?_
    refine z_lmul C dX7_asked_87 ?_
    refine z_aload_n C 1 dX7_asked_88 rfl ?_
    refine mg_13 C dX7_asked_89 ?_
    refine z_iload_n C 2 dX7_asked_92 rfl ?_
    refine ml_13 C j rfl (by first | assumption | omega) dX7_asked_93 ?_
    refine z_i2l C dX7_asked_94 ?_
    refine z_lmul C dX7_asked_95 ?_
    refine z_ladd C dX7_asked_96 ?_
    refine z_lstore_n (i := 2) C dX7_asked_97 rfl (by decide) ?_
    refine z_goto C 134 dX7_asked_98 (by decide) ?_
    refine z_pick [1, 2, 0] rfl ?_
    have q := jn_X7_asked M hj hs C0
    rw [askL_3 h14_3] at q
    exact q
  refine z_case (4) (fun h14_4 => ?_) (fun h14_4 => ?_)
  · refine z_tabIn C (4) (120) 134 h14_4 dX7_asked_14 (by decide) (by decide) ?_
    refine z_pick [1, 2, 0] rfl ?_
    have q := jn_X7_asked M hj hs C0
    rw [askL_o h14_1 h14_2 h14_3 (by rw [h14_4]; decide) (by rw [h14_4]; decide)] at q
    exact q
  refine z_case (5) (fun h14_5 => ?_) (fun h14_5 => ?_)
  · refine z_tabIn C (5) (107) 121 h14_5 dX7_asked_14 (by decide) (by decide) ?_
    refine z_lload_n C 0 dX7_asked_121 rfl ?_
    refine z_aload_n C 1 dX7_asked_122 rfl ?_
    refine mg_14 C dX7_asked_123 ?_
    refine z_iload_n C 2 dX7_asked_126 rfl ?_
    refine ml_14 C j rfl (by first | assumption | omega) dX7_asked_127 ?_
    refine z_i2l C dX7_asked_128 ?_
    refine z_lsub C dX7_asked_129 ?_
    refine z_lstore_n (i := 2) C dX7_asked_130 rfl (by decide) ?_
    refine z_goto C 134 dX7_asked_131 (by decide) ?_
    refine z_pick [1, 2, 0] rfl ?_
    have q := jn_X7_asked M hj hs C0
    rw [askL_5 h14_5] at q
    exact q
  refine z_case (6) (fun h14_6 => ?_) (fun h14_6 => ?_)
  · refine z_tabIn C (6) (38) 52 h14_6 dX7_asked_14 (by decide) (by decide) ?_
    refine z_lload_n C 0 dX7_asked_52 rfl ?_
    refine z_aload_n C 1 dX7_asked_53 rfl ?_
    refine mg_11 C dX7_asked_54 ?_
    refine z_iload_n C 2 dX7_asked_57 rfl ?_
    refine ml_11 C j rfl (by first | assumption | omega) dX7_asked_58 ?_
    refine z_aload_n C 1 dX7_asked_59 rfl ?_
    refine mg_13 C dX7_asked_60 ?_
    refine z_iload_n C 2 dX7_asked_63 rfl ?_
    refine ml_13 C j rfl (by first | assumption | omega) dX7_asked_64 ?_
    refine z_imul C dX7_asked_65 ?_
    refine z_i2l C dX7_asked_66 ?_
    refine z_ladd C dX7_asked_67 ?_
    refine z_lstore_n (i := 2) C dX7_asked_68 rfl (by decide) ?_
    refine z_goto C 134 dX7_asked_69 (by decide) ?_
    refine z_pick [1, 2, 0] rfl ?_
    have q := jn_X7_asked M hj hs C0
    rw [askL_6 hs h14_6] at q
    exact q
  refine z_tabOut C 134 (by have q0 := lv_neT (a := (1)) h14_1 rfl; have q1 := lv_neT (a := (2)) h14_2 rfl; have q2 := lv_neT (a := (3)) h14_3 rfl; have q3 := lv_neT (a := (4)) h14_4 rfl; have q4 := lv_neT (a := (5)) h14_5 rfl; have q5 := lv_neT (a := (6)) h14_6 rfl; omega) dX7_asked_14 (by decide) ?_
  refine z_pick [1, 2, 0] rfl ?_
  have q := jn_X7_asked M hj hs C0
  rw [askL_o h14_1 h14_2 h14_3 h14_5 h14_6] at q
  exact q
set_option maxRecDepth 100000 in
set_option maxHeartbeats 4000000 in
theorem c_X7_isForStamps (l : Launch) (E : zE) (M : zM) {j : Nat} (hj : j < 6) : MM l E yX7_isForStamps cX7_isForStamps 2 (some .boolean) 1 [.ref (madr E.2.2.1 (0, 0, 0)), .int (nI j)] (M) (fun v M2 => v = some (.int (bI (isSt (M.1.2.1 j)))) ∧ M2 = M) := by
  refine MM.mk kq_X7 (Nat.le_of_ble_eq_true rfl) (fun K s C0 => ?_)
  have C := C0.c
  refine z_aload_n C 0 dX7_isForStamps_0 rfl ?_
  refine mg_10 C dX7_isForStamps_1 ?_
  refine z_iload_n C 1 dX7_isForStamps_4 rfl ?_
  refine ml_10 C j rfl (by first | assumption | omega) dX7_isForStamps_5 ?_
  refine z_iconst C (v := 4) dX7_isForStamps_6 rfl ?_
  refine z_icmp_eq C 21 dX7_isForStamps_7 (by decide) (fun h7 => ?_) (fun h7 => ?_)
  · skip
    refine z_iconst C (v := 1) dX7_isForStamps_21 rfl ?_
    refine z_goto C 26 dX7_isForStamps_22 (by decide) ?_
    refine z_zret C0 rfl dX7_isForStamps_26 ?_
    exact ⟨by simp [isSt, bI, *], rfl⟩
  · skip
    refine z_aload_n C 0 dX7_isForStamps_10 rfl ?_
    refine mg_10 C dX7_isForStamps_11 ?_
    refine z_iload_n C 1 dX7_isForStamps_14 rfl ?_
    refine ml_10 C j rfl (by first | assumption | omega) dX7_isForStamps_15 ?_
    refine z_bipush C (v := 6) dX7_isForStamps_16 rfl ?_
    refine z_icmp_ne C 25 dX7_isForStamps_18 (by decide) (fun h18 => ?_) (fun h18 => ?_)
    · skip
      refine z_iconst C (v := 0) dX7_isForStamps_25 rfl ?_
      refine z_zret C0 rfl dX7_isForStamps_26 ?_
      exact ⟨by simp [isSt, bI, *], rfl⟩
    · skip
      refine z_iconst C (v := 1) dX7_isForStamps_21 rfl ?_
      refine z_goto C 26 dX7_isForStamps_22 (by decide) ?_
      refine z_zret C0 rfl dX7_isForStamps_26 ?_
      exact ⟨by simp [isSt, bI, *], rfl⟩
set_option maxRecDepth 100000 in
set_option maxHeartbeats 4000000 in
theorem c_X7_mayBuy (l : Launch) (E : zE) (M : zM) (hz : gz M.1) (hsm : sms M.1) {c : Nat} (hc6 : c < 6) (p : Int32) : MM l E yX7_mayBuy cX7_mayBuy 3 (some .boolean) 2 [.ref (madr E.2.2.1 (0, 0, 0)), .int (nI c), .int (p)] (M) (fun v M2 => v = some (.int (bI (mBuy M.1 c p))) ∧ M2 = M) := by
  refine MM.mk kq_X7 (Nat.le_of_ble_eq_true rfl) (fun K s C0 => ?_)
  have C := C0.c
  obtain ⟨⟨eS, lS⟩, ⟨eC, lC⟩⟩ := id hz
  refine z_aload_n C 0 dX7_mayBuy_0 rfl ?_
  refine z_iload_n C 2 dX7_mayBuy_1 rfl ?_
  refine z_callV1 C (c_X7_isShop l E _ _) ⟨rfl, rfl⟩ rfl rfl q_X7_128 ⟨by decide, by decide⟩ (Nat.le_of_ble_eq_true rfl) dX7_mayBuy_2 (fun v F9 hp => ?_)
  obtain ⟨rfl, e9⟩ := hp
  rw [e9]
  clear e9 F9
  refine z_if_eq C 18 dX7_mayBuy_5 (by decide) (fun h5 => ?_) (fun h5 => ?_)
  · skip
    have h5 := bI_0 h5
    refine z_iconst C (v := 0) dX7_mayBuy_18 rfl ?_
    refine z_zret C0 rfl dX7_mayBuy_19 ?_
    refine ⟨?_, rfl⟩
    unfold mBuy
    rw [h5]
    rfl
  · skip
    have h5 := bI_1 h5
    obtain ⟨j, hj, rfl⟩ := inR_of (n := nS M.1) (by rw [← eS]; exact h5) (by omega)
    have hj6 : j < 6 := by omega
    have ej : (nI j).toNatClampNeg = j := nI_clamp (by omega)
    refine z_aload_n C 0 dX7_mayBuy_8 rfl ?_
    refine mg_20 C dX7_mayBuy_9 ?_
    refine z_iload_n C 1 dX7_mayBuy_12 rfl ?_
    refine ml_20 C c rfl (by first | assumption | omega) dX7_mayBuy_13 ?_
    refine z_iload_n C 2 dX7_mayBuy_14 rfl ?_
    refine z_icmp_ne C 20 dX7_mayBuy_15 (by decide) (fun h15 => ?_) (fun h15 => ?_)
    · skip
      refine z_aload_n C 0 dX7_mayBuy_20 rfl ?_
      refine z_iload_n C 2 dX7_mayBuy_21 rfl ?_
      refine z_callV1 C (c_X7_isForStamps l E _ (by first | assumption | omega)) ⟨rfl, rfl⟩ rfl rfl q_X7_219 ⟨by decide, by decide⟩ (Nat.le_of_ble_eq_true rfl) dX7_mayBuy_22 (fun v F9 hp => ?_)
      obtain ⟨rfl, e9⟩ := hp
      rw [e9]
      clear e9 F9
      refine z_if_eq C 37 dX7_mayBuy_25 (by decide) (fun h25 => ?_) (fun h25 => ?_)
      · skip
        have h25 := bI_0 h25
        refine z_aload_n C 0 dX7_mayBuy_37 rfl ?_
        refine mg_16 C dX7_mayBuy_38 ?_
        refine z_iload_n C 1 dX7_mayBuy_41 rfl ?_
        refine ml_16 C c rfl (by first | assumption | omega) dX7_mayBuy_42 ?_
        refine z_aload_n C 0 dX7_mayBuy_43 rfl ?_
        refine mg_17 C dX7_mayBuy_44 ?_
        refine z_iload_n C 1 dX7_mayBuy_47 rfl ?_
        refine ml_17 C c rfl (by first | assumption | omega) dX7_mayBuy_48 ?_
        refine z_iadd C dX7_mayBuy_49 ?_
        refine z_aload_n C 0 dX7_mayBuy_50 rfl ?_
        refine z_iload_n C 2 dX7_mayBuy_51 rfl ?_
        refine z_callV1 C (c_X7_asked l E _ hj6 (hsm j hj)) ⟨rfl, rfl⟩ rfl rfl q_X7_131 ⟨by decide, by decide⟩ (Nat.le_of_ble_eq_true rfl) dX7_mayBuy_52 (fun v F9 hp => ?_)
        obtain ⟨rfl, e9⟩ := hp
        rw [e9]
        clear e9 F9
        refine z_icmp_lt C 62 dX7_mayBuy_55 (by decide) (fun h55 => ?_) (fun h55 => ?_)
        · skip
          refine z_iconst C (v := 0) dX7_mayBuy_62 rfl ?_
          refine z_zret C0 rfl dX7_mayBuy_63 ?_
          refine ⟨?_, rfl⟩
          unfold mBuy canBuy
          rw [if_pos h5, ej, if_neg h15, if_neg (by rw [h25]; decide)]
          rw [decide_eq_false (show ¬ askS M.1 j ≤ _ from Int32.not_le.mpr h55)]
          rfl
        · skip
          refine z_iconst C (v := 1) dX7_mayBuy_58 rfl ?_
          refine z_goto C 63 dX7_mayBuy_59 (by decide) ?_
          refine z_zret C0 rfl dX7_mayBuy_63 ?_
          refine ⟨?_, rfl⟩
          unfold mBuy canBuy
          rw [if_pos h5, ej, if_neg h15, if_neg (by rw [h25]; decide)]
          rw [decide_eq_true (show askS M.1 j ≤ _ from Int32.not_lt.mp h55)]
          rfl
      · skip
        have h25 := bI_1 h25
        refine z_aload_n C 0 dX7_mayBuy_28 rfl ?_
        refine mg_17 C dX7_mayBuy_29 ?_
        refine z_iload_n C 1 dX7_mayBuy_32 rfl ?_
        refine ml_17 C c rfl (by first | assumption | omega) dX7_mayBuy_33 ?_
        refine z_goto C 50 dX7_mayBuy_34 (by decide) ?_
        refine z_aload_n C 0 dX7_mayBuy_50 rfl ?_
        refine z_iload_n C 2 dX7_mayBuy_51 rfl ?_
        refine z_callV1 C (c_X7_asked l E _ hj6 (hsm j hj)) ⟨rfl, rfl⟩ rfl rfl q_X7_131 ⟨by decide, by decide⟩ (Nat.le_of_ble_eq_true rfl) dX7_mayBuy_52 (fun v F9 hp => ?_)
        obtain ⟨rfl, e9⟩ := hp
        rw [e9]
        clear e9 F9
        refine z_icmp_lt C 62 dX7_mayBuy_55 (by decide) (fun h55 => ?_) (fun h55 => ?_)
        · skip
          refine z_iconst C (v := 0) dX7_mayBuy_62 rfl ?_
          refine z_zret C0 rfl dX7_mayBuy_63 ?_
          refine ⟨?_, rfl⟩
          unfold mBuy canBuy
          rw [if_pos h5, ej, if_neg h15, if_pos h25]
          rw [decide_eq_false (show ¬ askS M.1 j ≤ _ from Int32.not_le.mpr h55)]
          rfl
        · skip
          refine z_iconst C (v := 1) dX7_mayBuy_58 rfl ?_
          refine z_goto C 63 dX7_mayBuy_59 (by decide) ?_
          refine z_zret C0 rfl dX7_mayBuy_63 ?_
          refine ⟨?_, rfl⟩
          unfold mBuy canBuy
          rw [if_pos h5, ej, if_neg h15, if_pos h25]
          rw [decide_eq_true (show askS M.1 j ≤ _ from Int32.not_lt.mp h55)]
          rfl
    · skip
      refine z_iconst C (v := 0) dX7_mayBuy_18 rfl ?_
      refine z_zret C0 rfl dX7_mayBuy_19 ?_
      refine ⟨?_, rfl⟩
      unfold mBuy
      unfold canBuy
      rw [if_pos h5, ej, if_pos h15]
      rfl
set_option maxRecDepth 100000 in
set_option maxHeartbeats 4000000 in
theorem c_X7_mayBe (l : Launch) (E : zE) (M : zM) (hz : gz M.1) (hsm : sms M.1) {c : Nat} (hc6 : c < 6) (d : Int32) : MM l E yX7_mayBe cX7_mayBe 3 (some .boolean) 3 [.ref (madr E.2.2.1 (0, 0, 0)), .int (nI c), .int (d)] (M) (fun v M2 => v = some (.int (bI (can M.1 c d))) ∧ M2 = M) := by
  refine MM.mk kq_X7 (Nat.le_of_ble_eq_true rfl) (fun K s C0 => ?_)
  have C := C0.c
  refine z_iload_n C 2 dX7_mayBe_0 rfl ?_
  refine z_case (0) (fun h1_0 => ?_) (fun h1_0 => ?_)
  · refine z_tabIn C (0) (31) 32 h1_0 dX7_mayBe_1 (by decide) (by decide) ?_
    refine z_iconst C (v := 1) dX7_mayBe_32 rfl ?_
    refine z_zret C0 rfl dX7_mayBe_33 ?_
    exact ⟨by rw [h1_0]; rfl, rfl⟩
  refine z_case (1) (fun h1_1 => ?_) (fun h1_1 => ?_)
  · refine z_tabIn C (1) (33) 34 h1_1 dX7_mayBe_1 (by decide) (by decide) ?_
    refine z_aload_n C 0 dX7_mayBe_34 rfl ?_
    refine mg_5 C dX7_mayBe_35 ?_
    refine z_if_le C 45 dX7_mayBe_38 (by decide) (fun h38 => ?_) (fun h38 => ?_)
    · skip
      refine z_iconst C (v := 0) dX7_mayBe_45 rfl ?_
      refine z_zret C0 rfl dX7_mayBe_46 ?_
      exact ⟨by simp [can, bI, Int32.not_le, h1_0, h1_1, h38, Int32.not_lt.mpr h38], rfl⟩
    · skip
      refine z_iconst C (v := 1) dX7_mayBe_41 rfl ?_
      refine z_goto C 46 dX7_mayBe_42 (by decide) ?_
      refine z_zret C0 rfl dX7_mayBe_46 ?_
      exact ⟨by simp [can, bI, Int32.not_le, h1_0, h1_1, h38, Int32.not_le.mp h38], rfl⟩
  refine z_case (2) (fun h1_2 => ?_) (fun h1_2 => ?_)
  · refine z_tabIn C (2) (46) 47 h1_2 dX7_mayBe_1 (by decide) (by decide) ?_
    refine z_aload_n C 0 dX7_mayBe_47 rfl ?_
    refine mg_4 C dX7_mayBe_48 ?_
    refine z_if_le C 67 dX7_mayBe_51 (by decide) (fun h51 => ?_) (fun h51 => ?_)
    · skip
      refine z_iconst C (v := 0) dX7_mayBe_67 rfl ?_
      refine z_zret C0 rfl dX7_mayBe_68 ?_
      exact ⟨by simp [can, bI, Int32.not_le, h1_0, h1_1, h1_2, h51, Int32.not_lt.mpr h51], rfl⟩
    · skip
      refine z_aload_n C 0 dX7_mayBe_54 rfl ?_
      refine mg_16 C dX7_mayBe_55 ?_
      refine z_iload_n C 1 dX7_mayBe_58 rfl ?_
      refine ml_16 C c rfl (by first | assumption | omega) dX7_mayBe_59 ?_
      refine z_if_le C 67 dX7_mayBe_60 (by decide) (fun h60 => ?_) (fun h60 => ?_)
      · skip
        refine z_iconst C (v := 0) dX7_mayBe_67 rfl ?_
        refine z_zret C0 rfl dX7_mayBe_68 ?_
        exact ⟨by simp [can, bI, Int32.not_le, h1_0, h1_1, h1_2, h51, Int32.not_le.mp h51, h60, Int32.not_lt.mpr h60], rfl⟩
      · skip
        refine z_iconst C (v := 1) dX7_mayBe_63 rfl ?_
        refine z_goto C 68 dX7_mayBe_64 (by decide) ?_
        refine z_zret C0 rfl dX7_mayBe_68 ?_
        exact ⟨by simp [can, bI, Int32.not_le, h1_0, h1_1, h1_2, h51, Int32.not_le.mp h51, h60, Int32.not_le.mp h60], rfl⟩
  refine z_case (3) (fun h1_3 => ?_) (fun h1_3 => ?_)
  · refine z_tabIn C (3) (68) 69 h1_3 dX7_mayBe_1 (by decide) (by decide) ?_
    refine z_aload_n C 0 dX7_mayBe_69 rfl ?_
    refine mg_18 C dX7_mayBe_70 ?_
    refine z_iload_n C 1 dX7_mayBe_73 rfl ?_
    refine ml_18 C c rfl (by first | assumption | omega) dX7_mayBe_74 ?_
    refine z_if_le C 82 dX7_mayBe_75 (by decide) (fun h75 => ?_) (fun h75 => ?_)
    · skip
      refine z_iconst C (v := 0) dX7_mayBe_82 rfl ?_
      refine z_zret C0 rfl dX7_mayBe_83 ?_
      exact ⟨by simp [can, bI, Int32.not_le, h1_0, h1_1, h1_2, h1_3, h75, Int32.not_lt.mpr h75], rfl⟩
    · skip
      refine z_iconst C (v := 1) dX7_mayBe_78 rfl ?_
      refine z_goto C 83 dX7_mayBe_79 (by decide) ?_
      refine z_zret C0 rfl dX7_mayBe_83 ?_
      exact ⟨by simp [can, bI, Int32.not_le, h1_0, h1_1, h1_2, h1_3, h75, Int32.not_le.mp h75], rfl⟩
  refine z_tabOut C 84 (by have q0 := lv_neT (a := (0)) h1_0 rfl; have q1 := lv_neT (a := (1)) h1_1 rfl; have q2 := lv_neT (a := (2)) h1_2 rfl; have q3 := lv_neT (a := (3)) h1_3 rfl; omega) dX7_mayBe_1 (by decide) ?_
  refine z_iload_n C 2 dX7_mayBe_84 rfl ?_
  refine z_bipush C (v := 10) dX7_mayBe_85 rfl ?_
  refine z_icmp_lt C 112 dX7_mayBe_87 (by decide) (fun h87 => ?_) (fun h87 => ?_)
  · skip
    refine z_iconst C (v := 0) dX7_mayBe_112 rfl ?_
    refine z_zret C0 rfl dX7_mayBe_113 ?_
    refine ⟨?_, rfl⟩
    unfold can
    rw [if_neg h1_0, if_neg h1_1, if_neg h1_2, if_neg h1_3, if_pos h87]
    rfl
  · skip
    refine z_iload_n C 2 dX7_mayBe_90 rfl ?_
    refine z_bipush C (v := 16) dX7_mayBe_91 rfl ?_
    refine z_icmp_ge C 112 dX7_mayBe_93 (by decide) (fun h93 => ?_) (fun h93 => ?_)
    · skip
      refine z_iconst C (v := 0) dX7_mayBe_112 rfl ?_
      refine z_zret C0 rfl dX7_mayBe_113 ?_
      refine ⟨?_, rfl⟩
      unfold can
      rw [if_neg h1_0, if_neg h1_1, if_neg h1_2, if_neg h1_3, if_neg h87, if_pos (big16 hz h93)]
      rfl
    · skip
      refine z_aload_n C 0 dX7_mayBe_96 rfl ?_
      refine z_iload_n C 1 dX7_mayBe_97 rfl ?_
      refine z_iload_n C 2 dX7_mayBe_98 rfl ?_
      refine z_bipush C (v := 10) dX7_mayBe_99 rfl ?_
      refine z_isub C dX7_mayBe_101 ?_
      refine z_callV2 C (c_X7_mayBuy l E _ (by assumption) (by assumption) (by first | assumption | omega) _) ⟨rfl, rfl⟩ rfl rfl q_X7_222 ⟨by decide, by decide⟩ (Nat.le_of_ble_eq_true rfl) dX7_mayBe_102 (fun v F9 hp => ?_)
      obtain ⟨rfl, e9⟩ := hp
      rw [e9]
      clear e9 F9
      refine z_if_eq C 112 dX7_mayBe_105 (by decide) (fun h105 => ?_) (fun h105 => ?_)
      · skip
        have h105 := bI_0 h105
        refine z_iconst C (v := 0) dX7_mayBe_112 rfl ?_
        refine z_zret C0 rfl dX7_mayBe_113 ?_
        refine ⟨?_, rfl⟩
        rw [can_mBuy h1_0 h1_1 h1_2 h1_3 h87, h105]
        rfl
      · skip
        have h105 := bI_1 h105
        refine z_iconst C (v := 1) dX7_mayBe_108 rfl ?_
        refine z_goto C 113 dX7_mayBe_109 (by decide) ?_
        refine z_zret C0 rfl dX7_mayBe_113 ?_
        refine ⟨?_, rfl⟩
        rw [can_mBuy h1_0 h1_1 h1_2 h1_3 h87, h105]
        rfl
set_option maxRecDepth 100000 in
set_option maxHeartbeats 4000000 in
theorem c_X7_full (l : Launch) (E : zE) (M : zM) (x : Int32) : MM l E yX7_full cX7_full 2 (some .int) 1 [.ref (madr E.2.2.1 (0, 0, 0)), .int (x)] (M) (fun v M2 => v = some (.int (mn9 x)) ∧ M2 = M) := by
  refine MM.mk kq_X7 (Nat.le_of_ble_eq_true rfl) (fun K s C0 => ?_)
  have C := C0.c
  refine z_iload_n C 1 dX7_full_0 rfl ?_
  refine z_sipush C (v := 9999) dX7_full_1 rfl ?_
  refine z_icmp_le C 13 dX7_full_4 (by decide) (fun h4 => ?_) (fun h4 => ?_)
  · skip
    refine z_iload_n C 1 dX7_full_13 rfl ?_
    refine z_iret C0 dX7_full_14 ?_
    exact ⟨by rw [mn9_a h4], rfl⟩
  · skip
    refine z_sipush C (v := 9999) dX7_full_7 rfl ?_
    refine z_goto C 14 dX7_full_10 (by decide) ?_
    refine z_iret C0 dX7_full_14 ?_
    exact ⟨by rw [mn9_b h4], rfl⟩
set_option maxRecDepth 100000 in
set_option maxHeartbeats 4000000 in
theorem lp_X7_buys {l : Launch} {E : zE} {K : zK} {s : State} (M : zM) (hz : gz M.1) (hsm : sms M.1) {c j : Nat} (hc6 : c < 6) (hj : j < nS M.1) (C0 : MR l E K cX7_buys RX7 2 s 6 none (fun v M2 => v = none ∧ M2 = mG M (buyG M.1 c j))) : ∀ (n2 : Nat) (k : Nat), (nC M.1 - k < n2) → (k ≤ nC M.1) → (keepN M.1 j k = none) → Z K (MP E (mG M (buyB M.1 c j)) s) 114 [(0, .ref (madr E.2.2.1 (0, 0, 0))), (2, .int (nI j)), (3, .int (askS M.1 j)), (4, .int (buyA M.1 c j)), (5, .int (nI k))] [] := by
  have C := C0.c
  intro n2
  induction n2 with
  | zero => intro k hk hkl hkn; exact absurd hk (Nat.not_lt_zero _)
  | succ n2 ih =>
    intro k hk hkl hkn
    obtain ⟨⟨eS, lS⟩, ⟨eC, lC⟩⟩ := id hz
    have hj6 : j < 6 := Nat.lt_of_lt_of_le hj lS
    refine z_iload C 4 dX7_buys_114 rfl ?_
    refine z_aload_n C 0 dX7_buys_116 rfl ?_
    refine mg_1 C dX7_buys_117 ?_
    rw [show (mG M (buyB M.1 c j)).1.1 1 = nI (nC M.1) from eC]
    refine z_icmp_ge C 188 dX7_buys_120 (by decide) (fun h120 => ?_) (fun h120 => ?_)
    · skip
      refine z_vret C0 dX7_buys_188 ?_
      have e : k = nC M.1 := by
        rcases Nat.lt_or_ge k (nC M.1) with q | q
        · exact absurd h120 (nI_ge q (by omega))
        · omega
      subst e
      refine ⟨rfl, ?_⟩
      unfold buyG
      rw [hkn]
    · skip
      have hk2 : k < nC M.1 := by
        rcases Nat.lt_or_ge k (nC M.1) with q | q
        · exact q
        · exact absurd (nI_le q (by omega)) h120
      have hk6 : k < 6 := by omega
      refine z_aload_n C 0 dX7_buys_123 rfl ?_
      refine mg_20 C dX7_buys_124 ?_
      refine z_iload C 4 dX7_buys_127 rfl ?_
      refine ml_20 C k rfl (by first | assumption | omega) dX7_buys_129 ?_
      refine z_top (M.1.2.2 k 5) (buyB_5 _ _ _ _) ?_
      refine z_iload_n C 1 dX7_buys_130 rfl ?_
      refine z_icmp_eq C 137 dX7_buys_131 (by decide) (fun h131 => ?_) (fun h131 => ?_)
      · skip
        refine z_aload_n C 0 dX7_buys_137 rfl ?_
        refine mg_16 C dX7_buys_138 ?_
        refine z_iload C 4 dX7_buys_141 rfl ?_
        refine z_aload_n C 0 dX7_buys_143 rfl ?_
        refine z_aload_n C 0 dX7_buys_144 rfl ?_
        refine mg_16 C dX7_buys_145 ?_
        refine z_iload C 4 dX7_buys_148 rfl ?_
        refine ml_16 C k rfl (by first | assumption | omega) dX7_buys_150 ?_
        refine z_iload C 3 dX7_buys_151 rfl ?_
        refine z_iadd C dX7_buys_153 ?_
        refine z_callV1 C (c_X7_full l E _ _) ⟨rfl, rfl⟩ rfl rfl q_X7_225 ⟨by decide, by decide⟩ (Nat.le_of_ble_eq_true rfl) dX7_buys_154 (fun v F9 hp => ?_)
        obtain ⟨rfl, e9⟩ := hp
        rw [e9]
        clear e9 F9
        refine ms_16 C k rfl (by first | assumption | omega) dX7_buys_157 ?_
        refine z_aload_n C 0 dX7_buys_158 rfl ?_
        refine mg_17 C dX7_buys_159 ?_
        refine z_iload C 4 dX7_buys_162 rfl ?_
        refine z_aload_n C 0 dX7_buys_164 rfl ?_
        refine z_aload_n C 0 dX7_buys_165 rfl ?_
        refine mg_17 C dX7_buys_166 ?_
        refine z_iload C 4 dX7_buys_169 rfl ?_
        refine ml_17 C k rfl (by first | assumption | omega) dX7_buys_171 ?_
        refine z_iload_n C 2 dX7_buys_172 rfl ?_
        refine z_iadd C dX7_buys_173 ?_
        refine z_iload C 3 dX7_buys_174 rfl ?_
        refine z_isub C dX7_buys_176 ?_
        refine z_callV1 C (c_X7_full l E _ _) ⟨rfl, rfl⟩ rfl rfl q_X7_225 ⟨by decide, by decide⟩ (Nat.le_of_ble_eq_true rfl) dX7_buys_177 (fun v F9 hp => ?_)
        obtain ⟨rfl, e9⟩ := hp
        rw [e9]
        clear e9 F9
        refine ms_17 C k rfl (by first | assumption | omega) dX7_buys_180 ?_
        refine z_vret C0 dX7_buys_181 ?_
        refine ⟨rfl, ?_⟩
        have e : keepN M.1 j (nC M.1) = some k := keepN_some hkn h131 hk2
        unfold buyG
        rw [e]
        exact buy_end
      · skip
        refine z_goto C 182 dX7_buys_134 (by decide) ?_
        refine z_iinc C (v := nI (k + 1)) 4 dX7_buys_182 rfl (nI_1 _) (by decide) ?_
        refine z_goto C 114 dX7_buys_185 (by decide) ?_
        refine z_pick [1, 2, 3, 4, 0] rfl ?_
        refine ih (k + 1) (by omega) (by omega) ?_
        simp only [keepN, hkn]
        rw [if_neg h131]
set_option maxRecDepth 100000 in
set_option maxHeartbeats 4000000 in
theorem c_X7_buys (l : Launch) (E : zE) (M : zM) (hz : gz M.1) (hsm : sms M.1) {c j : Nat} (hc6 : c < 6) (hj : j < nS M.1) : MM l E yX7_buys cX7_buys 6 none 2 [.ref (madr E.2.2.1 (0, 0, 0)), .int (nI c), .int (nI j)] (M) (fun v M2 => v = none ∧ M2 = mG M (buyG M.1 c j)) := by
  refine MM.mk kq_X7 (Nat.le_of_ble_eq_true rfl) (fun K s C0 => ?_)
  have C := C0.c
  obtain ⟨⟨eS, lS⟩, ⟨eC, lC⟩⟩ := id hz
  have hj6 : j < 6 := Nat.lt_of_lt_of_le hj lS
  refine z_aload_n C 0 dX7_buys_0 rfl ?_
  refine z_iload_n C 2 dX7_buys_1 rfl ?_
  refine z_callV1 C (c_X7_asked l E _ hj6 (hsm j hj)) ⟨rfl, rfl⟩ rfl rfl q_X7_131 ⟨by decide, by decide⟩ (Nat.le_of_ble_eq_true rfl) dX7_buys_2 (fun v F9 hp => ?_)
  obtain ⟨rfl, e9⟩ := hp
  rw [e9]
  clear e9 F9
  refine z_istore_n (i := 3) C dX7_buys_5 rfl (by decide) ?_
  refine z_aload_n C 1 dX7_buys_6 rfl ?_
  refine z_iload_n C 3 dX7_buys_7 rfl ?_
  refine z_callV1 C (c_X7_isForStamps l E _ (by first | assumption | omega)) ⟨rfl, rfl⟩ rfl rfl q_X7_219 ⟨by decide, by decide⟩ (Nat.le_of_ble_eq_true rfl) dX7_buys_8 (fun v F9 hp => ?_)
  obtain ⟨rfl, e9⟩ := hp
  rw [e9]
  clear e9 F9
  refine z_if_eq C 18 dX7_buys_11 (by decide) (fun h11 => ?_) (fun h11 => ?_)
  · skip
    have h11 := bI_0 h11
    refine z_aload_n C 1 dX7_buys_18 rfl ?_
    refine mg_16 C dX7_buys_19 ?_
    refine z_iload_n C 2 dX7_buys_22 rfl ?_
    refine ml_16 C c rfl (by first | assumption | omega) dX7_buys_23 ?_
    refine z_iload_n C 0 dX7_buys_24 rfl ?_
    refine z_icmp_ge C 37 dX7_buys_25 (by decide) (fun h25 => ?_) (fun h25 => ?_)
    · skip
      refine z_iload_n C 0 dX7_buys_37 rfl ?_
      refine z_top (buyA M.1 c j) (buyA_a h11 h25).symm ?_
      refine z_istore C dX7_buys_38 (by decide) ?_
      refine z_aload_n C 2 dX7_buys_40 rfl ?_
      refine mg_16 C dX7_buys_41 ?_
      refine z_iload_n C 3 dX7_buys_44 rfl ?_
      refine z_dup2 C dX7_buys_45 rfl rfl ?_
      refine ml_16 C c rfl (by first | assumption | omega) dX7_buys_46 ?_
      refine z_top (M.1.2.2 c 1) (by simp [mCh, mSh, mK, gCh, gSh, gSc, va_up, upd]) ?_
      refine z_iload C 0 dX7_buys_47 rfl ?_
      refine z_isub C dX7_buys_49 ?_
      refine ms_16 C c rfl (by first | assumption | omega) dX7_buys_50 ?_
      refine z_aload_n C 2 dX7_buys_51 rfl ?_
      refine mg_17 C dX7_buys_52 ?_
      refine z_iload_n C 3 dX7_buys_55 rfl ?_
      refine z_dup2 C dX7_buys_56 rfl rfl ?_
      refine ml_17 C c rfl (by first | assumption | omega) dX7_buys_57 ?_
      refine z_top (M.1.2.2 c 2) (by simp [mCh, mSh, mK, gCh, gSh, gSc, va_up, upd]) ?_
      refine z_iload_n C 1 dX7_buys_58 rfl ?_
      refine z_iload C 0 dX7_buys_59 rfl ?_
      refine z_isub C dX7_buys_61 ?_
      refine z_isub C dX7_buys_62 ?_
      refine ms_17 C c rfl (by first | assumption | omega) dX7_buys_63 ?_
      refine z_aload_n C 2 dX7_buys_64 rfl ?_
      refine z_dup C dX7_buys_65 rfl ?_
      refine mg_3 C dX7_buys_66 ?_
      refine z_top (M.1.1 3) rfl ?_
      refine z_iload_n C 1 dX7_buys_69 rfl ?_
      refine z_iadd C dX7_buys_70 ?_
      refine mp_3 C dX7_buys_71 ?_
      refine z_aload_n C 2 dX7_buys_74 rfl ?_
      refine mg_13 C dX7_buys_75 ?_
      refine z_iload_n C 4 dX7_buys_78 rfl ?_
      refine z_dup2 C dX7_buys_79 rfl rfl ?_
      refine ml_13 C j rfl (by first | assumption | omega) dX7_buys_80 ?_
      refine z_top (M.1.2.1 j 3) rfl ?_
      refine z_iconst C (v := 1) dX7_buys_81 rfl ?_
      refine z_iadd C dX7_buys_82 ?_
      refine ms_13 C j rfl (by first | assumption | omega) dX7_buys_83 ?_
      refine z_aload_n C 2 dX7_buys_84 rfl ?_
      refine mg_14 C dX7_buys_85 ?_
      refine z_iload_n C 4 dX7_buys_88 rfl ?_
      refine z_iconst C (v := 0) dX7_buys_89 rfl ?_
      refine ms_14 C j rfl (by first | assumption | omega) dX7_buys_90 ?_
      refine z_aload_n C 2 dX7_buys_91 rfl ?_
      refine mg_19 C dX7_buys_92 ?_
      refine z_iload_n C 3 dX7_buys_95 rfl ?_
      refine z_dup2 C dX7_buys_96 rfl rfl ?_
      refine ml_19 C c rfl (by first | assumption | omega) dX7_buys_97 ?_
      refine z_top (M.1.2.2 c 4) (by simp [mCh, mSh, mK, gCh, gSh, gSc, va_up, upd]) ?_
      refine z_iconst C (v := 1) dX7_buys_98 rfl ?_
      refine z_iadd C dX7_buys_99 ?_
      refine ms_19 C c rfl (by first | assumption | omega) dX7_buys_100 ?_
      refine z_aload_n C 2 dX7_buys_101 rfl ?_
      refine z_dup C dX7_buys_102 rfl ?_
      refine mg_6 C dX7_buys_103 ?_
      refine z_top (M.1.1 6) rfl ?_
      refine z_iconst C (v := 1) dX7_buys_106 rfl ?_
      refine z_iadd C dX7_buys_107 ?_
      refine mp_6 C dX7_buys_108 ?_
      refine z_iconst C (v := 0) dX7_buys_111 rfl ?_
      refine z_istore C dX7_buys_112 (by decide) ?_
      refine z_pick [3, 5, 2, 1, 0] rfl ?_
      exact lp_X7_buys M hz hsm hc6 hj C0 (nC M.1 + 1) 0 (by omega) (by omega) rfl
    · skip
      refine z_aload_n C 1 dX7_buys_28 rfl ?_
      refine mg_16 C dX7_buys_29 ?_
      refine z_iload_n C 2 dX7_buys_32 rfl ?_
      refine ml_16 C c rfl (by first | assumption | omega) dX7_buys_33 ?_
      refine z_goto C 38 dX7_buys_34 (by decide) ?_
      refine z_top (buyA M.1 c j) (buyA_b h11 h25).symm ?_
      refine z_istore C dX7_buys_38 (by decide) ?_
      refine z_aload_n C 2 dX7_buys_40 rfl ?_
      refine mg_16 C dX7_buys_41 ?_
      refine z_iload_n C 3 dX7_buys_44 rfl ?_
      refine z_dup2 C dX7_buys_45 rfl rfl ?_
      refine ml_16 C c rfl (by first | assumption | omega) dX7_buys_46 ?_
      refine z_top (M.1.2.2 c 1) (by simp [mCh, mSh, mK, gCh, gSh, gSc, va_up, upd]) ?_
      refine z_iload C 0 dX7_buys_47 rfl ?_
      refine z_isub C dX7_buys_49 ?_
      refine ms_16 C c rfl (by first | assumption | omega) dX7_buys_50 ?_
      refine z_aload_n C 2 dX7_buys_51 rfl ?_
      refine mg_17 C dX7_buys_52 ?_
      refine z_iload_n C 3 dX7_buys_55 rfl ?_
      refine z_dup2 C dX7_buys_56 rfl rfl ?_
      refine ml_17 C c rfl (by first | assumption | omega) dX7_buys_57 ?_
      refine z_top (M.1.2.2 c 2) (by simp [mCh, mSh, mK, gCh, gSh, gSc, va_up, upd]) ?_
      refine z_iload_n C 1 dX7_buys_58 rfl ?_
      refine z_iload C 0 dX7_buys_59 rfl ?_
      refine z_isub C dX7_buys_61 ?_
      refine z_isub C dX7_buys_62 ?_
      refine ms_17 C c rfl (by first | assumption | omega) dX7_buys_63 ?_
      refine z_aload_n C 2 dX7_buys_64 rfl ?_
      refine z_dup C dX7_buys_65 rfl ?_
      refine mg_3 C dX7_buys_66 ?_
      refine z_top (M.1.1 3) rfl ?_
      refine z_iload_n C 1 dX7_buys_69 rfl ?_
      refine z_iadd C dX7_buys_70 ?_
      refine mp_3 C dX7_buys_71 ?_
      refine z_aload_n C 2 dX7_buys_74 rfl ?_
      refine mg_13 C dX7_buys_75 ?_
      refine z_iload_n C 4 dX7_buys_78 rfl ?_
      refine z_dup2 C dX7_buys_79 rfl rfl ?_
      refine ml_13 C j rfl (by first | assumption | omega) dX7_buys_80 ?_
      refine z_top (M.1.2.1 j 3) rfl ?_
      refine z_iconst C (v := 1) dX7_buys_81 rfl ?_
      refine z_iadd C dX7_buys_82 ?_
      refine ms_13 C j rfl (by first | assumption | omega) dX7_buys_83 ?_
      refine z_aload_n C 2 dX7_buys_84 rfl ?_
      refine mg_14 C dX7_buys_85 ?_
      refine z_iload_n C 4 dX7_buys_88 rfl ?_
      refine z_iconst C (v := 0) dX7_buys_89 rfl ?_
      refine ms_14 C j rfl (by first | assumption | omega) dX7_buys_90 ?_
      refine z_aload_n C 2 dX7_buys_91 rfl ?_
      refine mg_19 C dX7_buys_92 ?_
      refine z_iload_n C 3 dX7_buys_95 rfl ?_
      refine z_dup2 C dX7_buys_96 rfl rfl ?_
      refine ml_19 C c rfl (by first | assumption | omega) dX7_buys_97 ?_
      refine z_top (M.1.2.2 c 4) (by simp [mCh, mSh, mK, gCh, gSh, gSc, va_up, upd]) ?_
      refine z_iconst C (v := 1) dX7_buys_98 rfl ?_
      refine z_iadd C dX7_buys_99 ?_
      refine ms_19 C c rfl (by first | assumption | omega) dX7_buys_100 ?_
      refine z_aload_n C 2 dX7_buys_101 rfl ?_
      refine z_dup C dX7_buys_102 rfl ?_
      refine mg_6 C dX7_buys_103 ?_
      refine z_top (M.1.1 6) rfl ?_
      refine z_iconst C (v := 1) dX7_buys_106 rfl ?_
      refine z_iadd C dX7_buys_107 ?_
      refine mp_6 C dX7_buys_108 ?_
      refine z_iconst C (v := 0) dX7_buys_111 rfl ?_
      refine z_istore C dX7_buys_112 (by decide) ?_
      refine z_pick [3, 5, 2, 1, 0] rfl ?_
      exact lp_X7_buys M hz hsm hc6 hj C0 (nC M.1 + 1) 0 (by omega) (by omega) rfl
  · skip
    have h11 := bI_1 h11
    refine z_iconst C (v := 0) dX7_buys_14 rfl ?_
    refine z_goto C 38 dX7_buys_15 (by decide) ?_
    refine z_top (buyA M.1 c j) (buyA_s h11).symm ?_
    refine z_istore C dX7_buys_38 (by decide) ?_
    refine z_aload_n C 2 dX7_buys_40 rfl ?_
    refine mg_16 C dX7_buys_41 ?_
    refine z_iload_n C 3 dX7_buys_44 rfl ?_
    refine z_dup2 C dX7_buys_45 rfl rfl ?_
    refine ml_16 C c rfl (by first | assumption | omega) dX7_buys_46 ?_
    refine z_top (M.1.2.2 c 1) (by simp [mCh, mSh, mK, gCh, gSh, gSc, va_up, upd]) ?_
    refine z_iload C 0 dX7_buys_47 rfl ?_
    refine z_isub C dX7_buys_49 ?_
    refine ms_16 C c rfl (by first | assumption | omega) dX7_buys_50 ?_
    refine z_aload_n C 2 dX7_buys_51 rfl ?_
    refine mg_17 C dX7_buys_52 ?_
    refine z_iload_n C 3 dX7_buys_55 rfl ?_
    refine z_dup2 C dX7_buys_56 rfl rfl ?_
    refine ml_17 C c rfl (by first | assumption | omega) dX7_buys_57 ?_
    refine z_top (M.1.2.2 c 2) (by simp [mCh, mSh, mK, gCh, gSh, gSc, va_up, upd]) ?_
    refine z_iload_n C 1 dX7_buys_58 rfl ?_
    refine z_iload C 0 dX7_buys_59 rfl ?_
    refine z_isub C dX7_buys_61 ?_
    refine z_isub C dX7_buys_62 ?_
    refine ms_17 C c rfl (by first | assumption | omega) dX7_buys_63 ?_
    refine z_aload_n C 2 dX7_buys_64 rfl ?_
    refine z_dup C dX7_buys_65 rfl ?_
    refine mg_3 C dX7_buys_66 ?_
    refine z_top (M.1.1 3) rfl ?_
    refine z_iload_n C 1 dX7_buys_69 rfl ?_
    refine z_iadd C dX7_buys_70 ?_
    refine mp_3 C dX7_buys_71 ?_
    refine z_aload_n C 2 dX7_buys_74 rfl ?_
    refine mg_13 C dX7_buys_75 ?_
    refine z_iload_n C 4 dX7_buys_78 rfl ?_
    refine z_dup2 C dX7_buys_79 rfl rfl ?_
    refine ml_13 C j rfl (by first | assumption | omega) dX7_buys_80 ?_
    refine z_top (M.1.2.1 j 3) rfl ?_
    refine z_iconst C (v := 1) dX7_buys_81 rfl ?_
    refine z_iadd C dX7_buys_82 ?_
    refine ms_13 C j rfl (by first | assumption | omega) dX7_buys_83 ?_
    refine z_aload_n C 2 dX7_buys_84 rfl ?_
    refine mg_14 C dX7_buys_85 ?_
    refine z_iload_n C 4 dX7_buys_88 rfl ?_
    refine z_iconst C (v := 0) dX7_buys_89 rfl ?_
    refine ms_14 C j rfl (by first | assumption | omega) dX7_buys_90 ?_
    refine z_aload_n C 2 dX7_buys_91 rfl ?_
    refine mg_19 C dX7_buys_92 ?_
    refine z_iload_n C 3 dX7_buys_95 rfl ?_
    refine z_dup2 C dX7_buys_96 rfl rfl ?_
    refine ml_19 C c rfl (by first | assumption | omega) dX7_buys_97 ?_
    refine z_top (M.1.2.2 c 4) (by simp [mCh, mSh, mK, gCh, gSh, gSc, va_up, upd]) ?_
    refine z_iconst C (v := 1) dX7_buys_98 rfl ?_
    refine z_iadd C dX7_buys_99 ?_
    refine ms_19 C c rfl (by first | assumption | omega) dX7_buys_100 ?_
    refine z_aload_n C 2 dX7_buys_101 rfl ?_
    refine z_dup C dX7_buys_102 rfl ?_
    refine mg_6 C dX7_buys_103 ?_
    refine z_top (M.1.1 6) rfl ?_
    refine z_iconst C (v := 1) dX7_buys_106 rfl ?_
    refine z_iadd C dX7_buys_107 ?_
    refine mp_6 C dX7_buys_108 ?_
    refine z_iconst C (v := 0) dX7_buys_111 rfl ?_
    refine z_istore C dX7_buys_112 (by decide) ?_
    refine z_pick [3, 5, 2, 1, 0] rfl ?_
    exact lp_X7_buys M hz hsm hc6 hj C0 (nC M.1 + 1) 0 (by omega) (by omega) rfl
set_option maxRecDepth 100000 in
set_option maxHeartbeats 4000000 in
theorem c_X7_makes (l : Launch) (E : zE) (M : zM) (hz : gz M.1) (hsm : sms M.1) {N : Nat} (h : rg N M.1) {c : Nat} (hc : c < nC M.1) {d : Int32} (hd : dd M.1 d) : MM l E yX7_makes cX7_makes 4 none 3 [.ref (madr E.2.2.1 (0, 0, 0)), .int (nI c), .int (d)] (M) (fun v M2 => v = none ∧ M2 = mG M (makes M.1 c d)) := by
  refine MM.mk kq_X7 (Nat.le_of_ble_eq_true rfl) (fun K s C0 => ?_)
  have C := C0.c
  obtain ⟨⟨eS, lS⟩, ⟨eC, lC⟩⟩ := id hz
  have hc6 : c < 6 := Nat.lt_of_lt_of_le hc lC
  refine z_iload_n C 2 dX7_makes_0 rfl ?_
  refine z_iconst C (v := 1) dX7_makes_1 rfl ?_
  refine z_icmp_ne C 60 dX7_makes_2 (by decide) (fun h2 => ?_) (fun h2 => ?_)
  · skip
    refine z_iload_n C 2 dX7_makes_60 rfl ?_
    refine z_iconst C (v := 2) dX7_makes_61 rfl ?_
    refine z_icmp_ne C 120 dX7_makes_62 (by decide) (fun h62 => ?_) (fun h62 => ?_)
    · skip
      refine z_iload_n C 2 dX7_makes_120 rfl ?_
      refine z_iconst C (v := 3) dX7_makes_121 rfl ?_
      refine z_icmp_ne C 154 dX7_makes_122 (by decide) (fun h122 => ?_) (fun h122 => ?_)
      · skip
        refine z_iload_n C 2 dX7_makes_154 rfl ?_
        refine z_bipush C (v := 10) dX7_makes_155 rfl ?_
        refine z_icmp_lt C 169 dX7_makes_157 (by decide) (fun h157 => ?_) (fun h157 => ?_)
        · skip
          refine z_vret C0 dX7_makes_169 ?_
          have e : d = 0 := dd_lt (hz := hz) hd h2 h62 h122 h157
          subst e
          exact ⟨rfl, rfl⟩
        · skip
          obtain ⟨j, hj, ej⟩ := (hd.resolve_left (dd_0 h157)).resolve_left h2 |>.resolve_left h62 |>.resolve_left h122
          have es : d - 10 = nI j := by rw [ej]; exact i_10s (by omega)
          refine z_aload_n C 0 dX7_makes_160 rfl ?_
          refine z_iload_n C 1 dX7_makes_161 rfl ?_
          refine z_iload_n C 2 dX7_makes_162 rfl ?_
          refine z_bipush C (v := 10) dX7_makes_163 rfl ?_
          refine z_isub C dX7_makes_165 ?_
          refine z_top (nI j) (es) ?_
          refine z_callV2 C (c_X7_buys l E _ hz hsm hc6 hj) ⟨rfl, rfl⟩ rfl rfl q_X7_228 ⟨by decide, by decide⟩ (Nat.le_of_ble_eq_true rfl) dX7_makes_166 (fun v F9 hp => ?_)
          obtain ⟨rfl, e9⟩ := hp
          rw [e9]
          clear e9 F9
          refine z_vret C0 dX7_makes_169 ?_
          refine ⟨rfl, ?_⟩
          unfold makes
          rw [if_neg (dd_0 h157), if_neg h2, if_neg h62, if_neg h122, es, nI_clamp (by omega)]
      · skip
        refine z_aload_n C 0 dX7_makes_125 rfl ?_
        refine mg_18 C dX7_makes_126 ?_
        refine z_iload_n C 1 dX7_makes_129 rfl ?_
        refine z_dup2 C dX7_makes_130 rfl rfl ?_
        refine ml_18 C c rfl (by first | assumption | omega) dX7_makes_131 ?_
        refine z_iconst C (v := 1) dX7_makes_132 rfl ?_
        refine z_isub C dX7_makes_133 ?_
        refine ms_18 C c rfl (by first | assumption | omega) dX7_makes_134 ?_
        refine z_aload_n C 0 dX7_makes_135 rfl ?_
        refine mg_16 C dX7_makes_136 ?_
        refine z_iload_n C 1 dX7_makes_139 rfl ?_
        refine z_aload_n C 0 dX7_makes_140 rfl ?_
        refine z_aload_n C 0 dX7_makes_141 rfl ?_
        refine mg_16 C dX7_makes_142 ?_
        refine z_iload_n C 1 dX7_makes_145 rfl ?_
        refine ml_16 C c rfl (by first | assumption | omega) dX7_makes_146 ?_
        refine z_bipush C (v := 10) dX7_makes_147 rfl ?_
        refine z_iadd C dX7_makes_149 ?_
        refine z_callV1 C (c_X7_full l E _ _) ⟨rfl, rfl⟩ rfl rfl q_X7_225 ⟨by decide, by decide⟩ (Nat.le_of_ble_eq_true rfl) dX7_makes_150 (fun v F9 hp => ?_)
        obtain ⟨rfl, e9⟩ := hp
        rw [e9]
        clear e9 F9
        refine ms_16 C c rfl (by first | assumption | omega) dX7_makes_153 ?_
        refine z_iload_n C 2 dX7_makes_154 rfl ?_
        refine z_bipush C (v := 10) dX7_makes_155 rfl ?_
        refine z_icmp_lt C 169 dX7_makes_157 (by decide) (fun h157 => ?_) (fun h157 => ?_)
        · skip
          refine z_vret C0 dX7_makes_169 ?_
          subst h122
          exact ⟨rfl, mk_3 (rgC_st (h.2.1 c hc))⟩
        · exact absurd (show d < 10 by rw [h122]; decide) h157
    · skip
      refine z_aload_n C 0 dX7_makes_65 rfl ?_
      refine mg_4 C dX7_makes_66 ?_
      refine z_aload_n C 0 dX7_makes_69 rfl ?_
      refine mg_16 C dX7_makes_70 ?_
      refine z_iload_n C 1 dX7_makes_73 rfl ?_
      refine ml_16 C c rfl (by first | assumption | omega) dX7_makes_74 ?_
      refine z_icmp_ge C 85 dX7_makes_75 (by decide) (fun h75 => ?_) (fun h75 => ?_)
      · skip
        refine z_aload_n C 0 dX7_makes_85 rfl ?_
        refine mg_16 C dX7_makes_86 ?_
        refine z_iload_n C 1 dX7_makes_89 rfl ?_
        refine ml_16 C c rfl (by first | assumption | omega) dX7_makes_90 ?_
        refine z_top (mnI (M.1.1 4) (M.1.2.2 c 1)) ((mnI_a h75).symm) ?_
        refine z_istore_n (i := 3) C dX7_makes_91 rfl (by decide) ?_
        refine z_aload_n C 1 dX7_makes_92 rfl ?_
        refine mg_16 C dX7_makes_93 ?_
        refine z_iload_n C 2 dX7_makes_96 rfl ?_
        refine z_dup2 C dX7_makes_97 rfl rfl ?_
        refine ml_16 C c rfl (by first | assumption | omega) dX7_makes_98 ?_
        refine z_iload_n C 0 dX7_makes_99 rfl ?_
        refine z_isub C dX7_makes_100 ?_
        refine ms_16 C c rfl (by first | assumption | omega) dX7_makes_101 ?_
        refine z_aload_n C 1 dX7_makes_102 rfl ?_
        refine mg_17 C dX7_makes_103 ?_
        refine z_iload_n C 2 dX7_makes_106 rfl ?_
        refine z_aload_n C 1 dX7_makes_107 rfl ?_
        refine z_aload_n C 1 dX7_makes_108 rfl ?_
        refine mg_17 C dX7_makes_109 ?_
        refine z_iload_n C 2 dX7_makes_112 rfl ?_
        refine ml_17 C c rfl (by first | assumption | omega) dX7_makes_113 ?_
        refine z_iload_n C 0 dX7_makes_114 rfl ?_
        refine z_iadd C dX7_makes_115 ?_
        refine z_callV1 C (c_X7_full l E _ _) ⟨rfl, rfl⟩ rfl rfl q_X7_225 ⟨by decide, by decide⟩ (Nat.le_of_ble_eq_true rfl) dX7_makes_116 (fun v F9 hp => ?_)
        obtain ⟨rfl, e9⟩ := hp
        rw [e9]
        clear e9 F9
        refine ms_17 C c rfl (by first | assumption | omega) dX7_makes_119 ?_
        refine z_iload_n C 3 dX7_makes_120 rfl ?_
        refine z_iconst C (v := 3) dX7_makes_121 rfl ?_
        refine z_icmp_ne C 154 dX7_makes_122 (by decide) (fun h122 => ?_) (fun h122 => ?_)
        · skip
          refine z_iload_n C 3 dX7_makes_154 rfl ?_
          refine z_bipush C (v := 10) dX7_makes_155 rfl ?_
          refine z_icmp_lt C 169 dX7_makes_157 (by decide) (fun h157 => ?_) (fun h157 => ?_)
          · skip
            refine z_vret C0 dX7_makes_169 ?_
            subst h62
            exact ⟨rfl, mk_2 (st_2 h hc)⟩
          · exact absurd (show d < 10 by rw [h62]; decide) h157
        · exact absurd (h62.symm.trans h122) (by decide)
      · skip
        refine z_aload_n C 0 dX7_makes_78 rfl ?_
        refine mg_4 C dX7_makes_79 ?_
        refine z_goto C 91 dX7_makes_82 (by decide) ?_
        refine z_top (mnI (M.1.1 4) (M.1.2.2 c 1)) ((mnI_b h75).symm) ?_
        refine z_istore_n (i := 3) C dX7_makes_91 rfl (by decide) ?_
        refine z_aload_n C 1 dX7_makes_92 rfl ?_
        refine mg_16 C dX7_makes_93 ?_
        refine z_iload_n C 2 dX7_makes_96 rfl ?_
        refine z_dup2 C dX7_makes_97 rfl rfl ?_
        refine ml_16 C c rfl (by first | assumption | omega) dX7_makes_98 ?_
        refine z_iload_n C 0 dX7_makes_99 rfl ?_
        refine z_isub C dX7_makes_100 ?_
        refine ms_16 C c rfl (by first | assumption | omega) dX7_makes_101 ?_
        refine z_aload_n C 1 dX7_makes_102 rfl ?_
        refine mg_17 C dX7_makes_103 ?_
        refine z_iload_n C 2 dX7_makes_106 rfl ?_
        refine z_aload_n C 1 dX7_makes_107 rfl ?_
        refine z_aload_n C 1 dX7_makes_108 rfl ?_
        refine mg_17 C dX7_makes_109 ?_
        refine z_iload_n C 2 dX7_makes_112 rfl ?_
        refine ml_17 C c rfl (by first | assumption | omega) dX7_makes_113 ?_
        refine z_iload_n C 0 dX7_makes_114 rfl ?_
        refine z_iadd C dX7_makes_115 ?_
        refine z_callV1 C (c_X7_full l E _ _) ⟨rfl, rfl⟩ rfl rfl q_X7_225 ⟨by decide, by decide⟩ (Nat.le_of_ble_eq_true rfl) dX7_makes_116 (fun v F9 hp => ?_)
        obtain ⟨rfl, e9⟩ := hp
        rw [e9]
        clear e9 F9
        refine ms_17 C c rfl (by first | assumption | omega) dX7_makes_119 ?_
        refine z_iload_n C 3 dX7_makes_120 rfl ?_
        refine z_iconst C (v := 3) dX7_makes_121 rfl ?_
        refine z_icmp_ne C 154 dX7_makes_122 (by decide) (fun h122 => ?_) (fun h122 => ?_)
        · skip
          refine z_iload_n C 3 dX7_makes_154 rfl ?_
          refine z_bipush C (v := 10) dX7_makes_155 rfl ?_
          refine z_icmp_lt C 169 dX7_makes_157 (by decide) (fun h157 => ?_) (fun h157 => ?_)
          · skip
            refine z_vret C0 dX7_makes_169 ?_
            subst h62
            exact ⟨rfl, mk_2 (st_2 h hc)⟩
          · exact absurd (show d < 10 by rw [h62]; decide) h157
        · exact absurd (h62.symm.trans h122) (by decide)
  · skip
    refine z_aload_n C 0 dX7_makes_5 rfl ?_
    refine mg_15 C dX7_makes_6 ?_
    refine z_iload_n C 1 dX7_makes_9 rfl ?_
    refine ml_15 C c rfl (by first | assumption | omega) dX7_makes_10 ?_
    refine z_aload_n C 0 dX7_makes_11 rfl ?_
    refine mg_5 C dX7_makes_12 ?_
    refine z_icmp_ge C 27 dX7_makes_15 (by decide) (fun h15 => ?_) (fun h15 => ?_)
    · skip
      refine z_aload_n C 0 dX7_makes_27 rfl ?_
      refine mg_5 C dX7_makes_28 ?_
      refine z_top (mnI (M.1.2.2 c 0) (M.1.1 5)) ((mnI_a (Int32.not_lt.mp (Int32.not_lt.mpr h15))).symm) ?_
      refine z_istore_n (i := 3) C dX7_makes_31 rfl (by decide) ?_
      refine z_aload_n C 1 dX7_makes_32 rfl ?_
      refine z_dup C dX7_makes_33 rfl ?_
      refine mg_5 C dX7_makes_34 ?_
      refine z_top (M.1.1 5) rfl ?_
      refine z_iload_n C 0 dX7_makes_37 rfl ?_
      refine z_isub C dX7_makes_38 ?_
      refine mp_5 C dX7_makes_39 ?_
      refine z_aload_n C 1 dX7_makes_42 rfl ?_
      refine mg_16 C dX7_makes_43 ?_
      refine z_iload_n C 2 dX7_makes_46 rfl ?_
      refine z_aload_n C 1 dX7_makes_47 rfl ?_
      refine z_aload_n C 1 dX7_makes_48 rfl ?_
      refine mg_16 C dX7_makes_49 ?_
      refine z_iload_n C 2 dX7_makes_52 rfl ?_
      refine ml_16 C c rfl (by first | assumption | omega) dX7_makes_53 ?_
      refine z_iload_n C 0 dX7_makes_54 rfl ?_
      refine z_iadd C dX7_makes_55 ?_
      refine z_callV1 C (c_X7_full l E _ _) ⟨rfl, rfl⟩ rfl rfl q_X7_225 ⟨by decide, by decide⟩ (Nat.le_of_ble_eq_true rfl) dX7_makes_56 (fun v F9 hp => ?_)
      obtain ⟨rfl, e9⟩ := hp
      rw [e9]
      clear e9 F9
      refine ms_16 C c rfl (by first | assumption | omega) dX7_makes_59 ?_
      refine z_iload_n C 3 dX7_makes_60 rfl ?_
      refine z_iconst C (v := 2) dX7_makes_61 rfl ?_
      refine z_icmp_ne C 120 dX7_makes_62 (by decide) (fun h62 => ?_) (fun h62 => ?_)
      · skip
        refine z_iload_n C 3 dX7_makes_120 rfl ?_
        refine z_iconst C (v := 3) dX7_makes_121 rfl ?_
        refine z_icmp_ne C 154 dX7_makes_122 (by decide) (fun h122 => ?_) (fun h122 => ?_)
        · skip
          refine z_iload_n C 3 dX7_makes_154 rfl ?_
          refine z_bipush C (v := 10) dX7_makes_155 rfl ?_
          refine z_icmp_lt C 169 dX7_makes_157 (by decide) (fun h157 => ?_) (fun h157 => ?_)
          · skip
            refine z_vret C0 dX7_makes_169 ?_
            subst h2
            exact ⟨rfl, mk_1 (rgC_st (h.2.1 c hc))⟩
          · exact absurd (show d < 10 by rw [h2]; decide) h157
        · exact absurd (h2.symm.trans h122) (by decide)
      · exact absurd (h2.symm.trans h62) (by decide)
    · skip
      refine z_aload_n C 0 dX7_makes_18 rfl ?_
      refine mg_15 C dX7_makes_19 ?_
      refine z_iload_n C 1 dX7_makes_22 rfl ?_
      refine ml_15 C c rfl (by first | assumption | omega) dX7_makes_23 ?_
      refine z_goto C 31 dX7_makes_24 (by decide) ?_
      refine z_top (mnI (M.1.2.2 c 0) (M.1.1 5)) ((mnI_b h15).symm) ?_
      refine z_istore_n (i := 3) C dX7_makes_31 rfl (by decide) ?_
      refine z_aload_n C 1 dX7_makes_32 rfl ?_
      refine z_dup C dX7_makes_33 rfl ?_
      refine mg_5 C dX7_makes_34 ?_
      refine z_top (M.1.1 5) rfl ?_
      refine z_iload_n C 0 dX7_makes_37 rfl ?_
      refine z_isub C dX7_makes_38 ?_
      refine mp_5 C dX7_makes_39 ?_
      refine z_aload_n C 1 dX7_makes_42 rfl ?_
      refine mg_16 C dX7_makes_43 ?_
      refine z_iload_n C 2 dX7_makes_46 rfl ?_
      refine z_aload_n C 1 dX7_makes_47 rfl ?_
      refine z_aload_n C 1 dX7_makes_48 rfl ?_
      refine mg_16 C dX7_makes_49 ?_
      refine z_iload_n C 2 dX7_makes_52 rfl ?_
      refine ml_16 C c rfl (by first | assumption | omega) dX7_makes_53 ?_
      refine z_iload_n C 0 dX7_makes_54 rfl ?_
      refine z_iadd C dX7_makes_55 ?_
      refine z_callV1 C (c_X7_full l E _ _) ⟨rfl, rfl⟩ rfl rfl q_X7_225 ⟨by decide, by decide⟩ (Nat.le_of_ble_eq_true rfl) dX7_makes_56 (fun v F9 hp => ?_)
      obtain ⟨rfl, e9⟩ := hp
      rw [e9]
      clear e9 F9
      refine ms_16 C c rfl (by first | assumption | omega) dX7_makes_59 ?_
      refine z_iload_n C 3 dX7_makes_60 rfl ?_
      refine z_iconst C (v := 2) dX7_makes_61 rfl ?_
      refine z_icmp_ne C 120 dX7_makes_62 (by decide) (fun h62 => ?_) (fun h62 => ?_)
      · skip
        refine z_iload_n C 3 dX7_makes_120 rfl ?_
        refine z_iconst C (v := 3) dX7_makes_121 rfl ?_
        refine z_icmp_ne C 154 dX7_makes_122 (by decide) (fun h122 => ?_) (fun h122 => ?_)
        · skip
          refine z_iload_n C 3 dX7_makes_154 rfl ?_
          refine z_bipush C (v := 10) dX7_makes_155 rfl ?_
          refine z_icmp_lt C 169 dX7_makes_157 (by decide) (fun h157 => ?_) (fun h157 => ?_)
          · skip
            refine z_vret C0 dX7_makes_169 ?_
            subst h2
            exact ⟨rfl, mk_1 (rgC_st (h.2.1 c hc))⟩
          · exact absurd (show d < 10 by rw [h2]; decide) h157
        · exact absurd (h2.symm.trans h122) (by decide)
      · exact absurd (h2.symm.trans h62) (by decide)
set_option maxRecDepth 100000 in
set_option maxHeartbeats 4000000 in
theorem lp_X7_begins {l : Launch} {E : zE} {K : zK} {s : State} (M : zM) (hz : gz M.1) (C0 : MR l E K cX7_begins RX7 1 s 2 none (fun v M2 => v = none ∧ M2 = mB M M.1 (bgN M.1 (M.2.2.1 38) (nS M.1)))) : ∀ (n2 : Nat) (k : Nat), (nS M.1 - k < n2) → (k ≤ nS M.1) → Z K (MP E (mB M M.1 (bgN M.1 (M.2.2.1 38) k)) s) 2 [(0, .ref (madr E.2.2.1 (0, 0, 0))), (1, .int (nI k))] [] := by
  have C := C0.c
  intro n2
  induction n2 with
  | zero => intro k hk hkl; exact absurd hk (Nat.not_lt_zero _)
  | succ n2 ih =>
    intro k hk hkl
    obtain ⟨⟨eS, lS⟩, ⟨eC, lC⟩⟩ := id hz
    refine z_iload_n C 1 dX7_begins_2 rfl ?_
    refine z_aload_n C 0 dX7_begins_3 rfl ?_
    refine mg_0 C dX7_begins_4 ?_
    rw [show (mB M M.1 (bgN M.1 (M.2.2.1 38) k)).1.1 0 = nI (nS M.1) from eS]
    refine z_icmp_ge C 28 dX7_begins_7 (by decide) (fun h7 => ?_) (fun h7 => ?_)
    · skip
      refine z_vret C0 dX7_begins_28 ?_
      have e : k = nS M.1 := by
        rcases Nat.lt_or_ge k (nS M.1) with q | q
        · exact absurd h7 (nI_ge q (by omega))
        · omega
      subst e
      exact ⟨rfl, rfl⟩
    · skip
      have hk2 : k < nS M.1 := by
        rcases Nat.lt_or_ge k (nS M.1) with q | q
        · exact q
        · exact absurd (nI_le q (by omega)) h7
      have hk6 : k < 6 := by omega
      refine z_aload_n C 0 dX7_begins_10 rfl ?_
      refine mg_38 C dX7_begins_11 ?_
      refine z_iload_n C 1 dX7_begins_14 rfl ?_
      refine z_aload_n C 0 dX7_begins_15 rfl ?_
      refine mg_13 C dX7_begins_16 ?_
      refine z_iload_n C 1 dX7_begins_19 rfl ?_
      refine ml_13 C k rfl (by first | assumption | omega) dX7_begins_20 ?_
      refine ms_38 C k rfl (by first | assumption | omega) dX7_begins_21 ?_
      rw [mB_A]
      refine z_iinc C (v := nI (k + 1)) 1 dX7_begins_22 rfl (nI_1 _) (by decide) ?_
      refine z_goto C 2 dX7_begins_25 (by decide) ?_
      refine z_pick [1, 0] rfl ?_
      have q := ih (k + 1) (by omega) (by omega)
      rw [bgN_s] at q
      exact q
set_option maxRecDepth 100000 in
set_option maxHeartbeats 4000000 in
theorem c_X7_begins (l : Launch) (E : zE) (M : zM) (hz : gz M.1) : MM l E yX7_begins cX7_begins 2 none 1 [.ref (madr E.2.2.1 (0, 0, 0))] (M) (fun v M2 => v = none ∧ M2 = mB M M.1 (bgN M.1 (M.2.2.1 38) (nS M.1))) := by
  refine MM.mk kq_X7 (Nat.le_of_ble_eq_true rfl) (fun K s C0 => ?_)
  have C := C0.c
  obtain ⟨⟨eS, lS⟩, ⟨eC, lC⟩⟩ := id hz
  refine z_iconst C (v := 0) dX7_begins_0 rfl ?_
  refine z_istore_n (i := 1) C dX7_begins_1 rfl (by decide) ?_
  refine z_pick [1, 0] rfl ?_
  have q := lp_X7_begins M hz C0 (nS M.1 + 1) 0 (by omega) (by omega)
  rw [mB_0] at q
  exact q
set_option maxRecDepth 100000 in
set_option maxHeartbeats 4000000 in
theorem lp_X7_ends {l : Launch} {E : zE} {K : zK} {s : State} (M : zM) (hz : gz M.1) (C0 : MR l E K cX7_ends RX7 1 s 2 none (fun v M2 => v = none ∧ M2 = mG M (gSc (edN (M.2.2.1 38) (nS M.1) M.1) 2 (M.1.1 2 + 1)))) : ∀ (n2 : Nat) (k : Nat), (nS M.1 - k < n2) → (k ≤ nS M.1) → Z K (MP E (mG M (edN (M.2.2.1 38) k M.1)) s) 2 [(0, .ref (madr E.2.2.1 (0, 0, 0))), (1, .int (nI k))] [] := by
  have C := C0.c
  intro n2
  induction n2 with
  | zero => intro k hk hkl; exact absurd hk (Nat.not_lt_zero _)
  | succ n2 ih =>
    intro k hk hkl
    obtain ⟨⟨eS, lS⟩, ⟨eC, lC⟩⟩ := id hz
    refine z_iload_n C 1 dX7_ends_2 rfl ?_
    refine z_aload_n C 0 dX7_ends_3 rfl ?_
    refine mg_0 C dX7_ends_4 ?_
    rw [show (mG M (edN (M.2.2.1 38) k M.1)).1.1 0 = nI (nS M.1) from (congrFun edN_1 0).trans eS]
    refine z_icmp_ge C 53 dX7_ends_7 (by decide) (fun h7 => ?_) (fun h7 => ?_)
    · skip
      refine z_aload_n C 0 dX7_ends_53 rfl ?_
      refine z_dup C dX7_ends_54 rfl ?_
      refine mg_2 C dX7_ends_55 ?_
      refine z_top (M.1.1 2) (congrFun edN_1 2) ?_
      refine z_iconst C (v := 1) dX7_ends_58 rfl ?_
      refine z_iadd C dX7_ends_59 ?_
      refine mp_2 C dX7_ends_60 ?_
      refine z_vret C0 dX7_ends_63 ?_
      have e : k = nS M.1 := by
        rcases Nat.lt_or_ge k (nS M.1) with q | q
        · exact absurd h7 (nI_ge q (by omega))
        · omega
      subst e
      exact ⟨rfl, rfl⟩
    · skip
      have hk2 : k < nS M.1 := by
        rcases Nat.lt_or_ge k (nS M.1) with q | q
        · exact q
        · exact absurd (nI_le q (by omega)) h7
      have hk6 : k < 6 := by omega
      refine z_aload_n C 0 dX7_ends_10 rfl ?_
      refine mg_13 C dX7_ends_11 ?_
      refine z_iload_n C 1 dX7_ends_14 rfl ?_
      refine ml_13 C k rfl (by first | assumption | omega) dX7_ends_15 ?_
      refine z_aload_n C 0 dX7_ends_16 rfl ?_
      refine mg_38 C dX7_ends_17 ?_
      refine z_iload_n C 1 dX7_ends_20 rfl ?_
      refine ml_38 C k rfl (by first | assumption | omega) dX7_ends_21 ?_
      refine z_icmp_ne C 47 dX7_ends_22 (by decide) (fun h22 => ?_) (fun h22 => ?_)
      · skip
        refine z_iinc C (v := nI (k + 1)) 1 dX7_ends_47 rfl (nI_1 _) (by decide) ?_
        refine z_goto C 2 dX7_ends_50 (by decide) ?_
        refine z_pick [1, 0] rfl ?_
        have q := ih (k + 1) (by omega) (by omega)
        simp only [edN, edS] at q
        rw [if_neg (fun z => h22 z.1)] at q
        exact q
      · skip
        refine z_aload_n C 0 dX7_ends_25 rfl ?_
        refine mg_14 C dX7_ends_26 ?_
        refine z_iload_n C 1 dX7_ends_29 rfl ?_
        refine ml_14 C k rfl (by first | assumption | omega) dX7_ends_30 ?_
        refine z_sipush C (v := 999) dX7_ends_31 rfl ?_
        refine z_icmp_ge C 47 dX7_ends_34 (by decide) (fun h34 => ?_) (fun h34 => ?_)
        · skip
          refine z_iinc C (v := nI (k + 1)) 1 dX7_ends_47 rfl (nI_1 _) (by decide) ?_
          refine z_goto C 2 dX7_ends_50 (by decide) ?_
          refine z_pick [1, 0] rfl ?_
          have q := ih (k + 1) (by omega) (by omega)
          simp only [edN, edS] at q
          rw [if_neg (fun z => absurd z.2 (Int32.not_lt.mpr h34))] at q
          exact q
        · skip
          refine z_aload_n C 0 dX7_ends_37 rfl ?_
          refine mg_14 C dX7_ends_38 ?_
          refine z_iload_n C 1 dX7_ends_41 rfl ?_
          refine z_dup2 C dX7_ends_42 rfl rfl ?_
          refine ml_14 C k rfl (by first | assumption | omega) dX7_ends_43 ?_
          refine z_iconst C (v := 1) dX7_ends_44 rfl ?_
          refine z_iadd C dX7_ends_45 ?_
          refine ms_14 C k rfl (by first | assumption | omega) dX7_ends_46 ?_
          refine z_iinc C (v := nI (k + 1)) 1 dX7_ends_47 rfl (nI_1 _) (by decide) ?_
          refine z_goto C 2 dX7_ends_50 (by decide) ?_
          refine z_pick [1, 0] rfl ?_
          have q := ih (k + 1) (by omega) (by omega)
          simp only [edN, edS] at q
          rw [if_pos ⟨Classical.not_not.mp (fun z => z h22), Int32.not_le.mp h34⟩] at q
          exact q
set_option maxRecDepth 100000 in
set_option maxHeartbeats 4000000 in
theorem c_X7_ends (l : Launch) (E : zE) (M : zM) (hz : gz M.1) : MM l E yX7_ends cX7_ends 2 none 1 [.ref (madr E.2.2.1 (0, 0, 0))] (M) (fun v M2 => v = none ∧ M2 = mG M (gSc (edN (M.2.2.1 38) (nS M.1) M.1) 2 (M.1.1 2 + 1))) := by
  refine MM.mk kq_X7 (Nat.le_of_ble_eq_true rfl) (fun K s C0 => ?_)
  have C := C0.c
  obtain ⟨⟨eS, lS⟩, ⟨eC, lC⟩⟩ := id hz
  refine z_iconst C (v := 0) dX7_ends_0 rfl ?_
  refine z_istore_n (i := 1) C dX7_ends_1 rfl (by decide) ?_
  refine z_pick [1, 0] rfl ?_
  exact lp_X7_ends M hz C0 (nS M.1 + 1) 0 (by omega) (by omega)
set_option maxRecDepth 100000 in
set_option maxHeartbeats 4000000 in
theorem lp_X7_rots_45 {l : Launch} {E : zE} {K : zK} {s : State} (M : zM) (hz : gz M.1) {N : Nat} (h : rg N M.1) (C0 : MR l E K cX7_rots RX7 1 s 4 (some .int) (fun v M2 => v = some (.int (nightL M.1)) ∧ M2 = mG M (nightG M.1))) : ∀ (n2 : Nat) (k : Nat), (nS M.1 - k < n2) → (k ≤ nS M.1) → Z K (MP E (mG M (nightS k (nightC (nC M.1) (M.1, 0)).1)) s) 45 [(0, .ref (madr E.2.2.1 (0, 0, 0))), (1, .int ((nightC (nC M.1) (M.1, 0)).2)), (2, .int (nI k))] [] := by
  have C := C0.c
  intro n2
  induction n2 with
  | zero => intro k hk hkl; exact absurd hk (Nat.not_lt_zero _)
  | succ n2 ih =>
    intro k hk hkl
    obtain ⟨⟨eS, lS⟩, ⟨eC, lC⟩⟩ := id hz
    refine z_iload_n C 2 dX7_rots_45 rfl ?_
    refine z_aload_n C 0 dX7_rots_46 rfl ?_
    refine mg_0 C dX7_rots_47 ?_
    rw [show (mG M (nightS k (nightC (nC M.1) (M.1, 0)).1)).1.1 0 = nI (nS M.1) from (congrFun nightS_1 0).trans ((congrFun nightC_1 0).trans eS)]
    refine z_icmp_ge C 73 dX7_rots_50 (by decide) (fun h50 => ?_) (fun h50 => ?_)
    · skip
      refine z_aload_n C 0 dX7_rots_73 rfl ?_
      refine z_sipush C (v := 999) dX7_rots_74 rfl ?_
      refine mp_5 C dX7_rots_77 ?_
      refine z_iload_n C 1 dX7_rots_80 rfl ?_
      refine z_iret C0 dX7_rots_81 ?_
      have e : k = nS M.1 := by
        rcases Nat.lt_or_ge k (nS M.1) with q | q
        · exact absurd h50 (nI_ge q (by omega))
        · omega
      subst e
      exact ⟨rfl, rfl⟩
    · skip
      have hk2 : k < nS M.1 := by
        rcases Nat.lt_or_ge k (nS M.1) with q | q
        · exact q
        · exact absurd (nI_le q (by omega)) h50
      have hk6 : k < 6 := by omega
      refine z_aload_n C 0 dX7_rots_53 rfl ?_
      refine mg_13 C dX7_rots_54 ?_
      refine z_iload_n C 2 dX7_rots_57 rfl ?_
      refine z_iconst C (v := 0) dX7_rots_58 rfl ?_
      refine ms_13 C k rfl (by first | assumption | omega) dX7_rots_59 ?_
      refine z_aload_n C 0 dX7_rots_60 rfl ?_
      refine mg_14 C dX7_rots_61 ?_
      refine z_iload_n C 2 dX7_rots_64 rfl ?_
      refine z_iconst C (v := 0) dX7_rots_65 rfl ?_
      refine ms_14 C k rfl (by first | assumption | omega) dX7_rots_66 ?_
      refine z_iinc C (v := nI (k + 1)) 2 dX7_rots_67 rfl (nI_1 _) (by decide) ?_
      refine z_goto C 45 dX7_rots_70 (by decide) ?_
      refine z_pick [1, 2, 0] rfl ?_
      exact ih (k + 1) (by omega) (by omega)
set_option maxRecDepth 100000 in
set_option maxHeartbeats 4000000 in
theorem lp_X7_rots_4 {l : Launch} {E : zE} {K : zK} {s : State} (M : zM) (hz : gz M.1) {N : Nat} (h : rg N M.1) (C0 : MR l E K cX7_rots RX7 1 s 4 (some .int) (fun v M2 => v = some (.int (nightL M.1)) ∧ M2 = mG M (nightG M.1))) : ∀ (n2 : Nat) (c : Nat), (nC M.1 - c < n2) → (c ≤ nC M.1) → Z K (MP E (mG M (nightC c (M.1, 0)).1) s) 4 [(0, .ref (madr E.2.2.1 (0, 0, 0))), (1, .int ((nightC c (M.1, 0)).2)), (2, .int (nI c))] [] := by
  have C := C0.c
  intro n2
  induction n2 with
  | zero => intro c hk hkl; exact absurd hk (Nat.not_lt_zero _)
  | succ n2 ih =>
    intro c hk hkl
    obtain ⟨⟨eS, lS⟩, ⟨eC, lC⟩⟩ := id hz
    refine z_iload_n C 2 dX7_rots_4 rfl ?_
    refine z_aload_n C 0 dX7_rots_5 rfl ?_
    refine mg_1 C dX7_rots_6 ?_
    rw [show (mG M (nightC c (M.1, 0)).1).1.1 1 = nI (nC M.1) from (congrFun nightC_1 1).trans eC]
    refine z_icmp_ge C 43 dX7_rots_9 (by decide) (fun h9 => ?_) (fun h9 => ?_)
    · skip
      refine z_iconst C (v := 0) dX7_rots_43 rfl ?_
      refine z_istore_n (i := 2) C dX7_rots_44 rfl (by decide) ?_
      refine z_pick [1, 2, 0] rfl ?_
      have ec : c = nC M.1 := by
        rcases Nat.lt_or_ge c (nC M.1) with q | q
        · exact absurd h9 (nI_ge q (by omega))
        · omega
      subst ec
      exact lp_X7_rots_45 M hz h C0 (nS M.1 + 1) 0 (by omega) (by omega)
    · skip
      have hc2 : c < nC M.1 := by
        rcases Nat.lt_or_ge c (nC M.1) with q | q
        · exact q
        · exact absurd (nI_le q (by omega)) h9
      have hc6 : c < 6 := by omega
      obtain ⟨-, ⟨x, hx, ex⟩, -⟩ := h.2.1 c hc2
      have ex2 : (nightC c (M.1, 0)).1.2.2 c 1 = nI x := (nightC_at (Nat.le_refl c)).trans ex
      refine z_aload_n C 0 dX7_rots_12 rfl ?_
      refine mg_16 C dX7_rots_13 ?_
      refine z_iload_n C 2 dX7_rots_16 rfl ?_
      refine ml_16 C c rfl (by first | assumption | omega) dX7_rots_17 ?_
      refine z_top (nI x) ex2 ?_
      refine z_iconst C (v := 1) dX7_rots_18 rfl ?_
      refine z_iadd C dX7_rots_19 ?_
      refine z_iconst C (v := 2) dX7_rots_20 rfl ?_
      refine z_idiv C dX7_rots_21 (by decide) ?_
      refine z_top (nI ((x + 1) / 2)) (by rw [nI_1]; exact pk_div (d := 2) (by omega) (by omega) (by omega)) ?_
      refine z_istore_n (i := 3) C dX7_rots_22 rfl (by decide) ?_
      refine z_aload_n C 1 dX7_rots_23 rfl ?_
      refine mg_16 C dX7_rots_24 ?_
      refine z_iload_n C 3 dX7_rots_27 rfl ?_
      refine z_dup2 C dX7_rots_28 rfl rfl ?_
      refine ml_16 C c rfl (by first | assumption | omega) dX7_rots_29 ?_
      refine z_top (nI x) ex2 ?_
      refine z_iload_n C 0 dX7_rots_30 rfl ?_
      refine z_isub C dX7_rots_31 ?_
      refine z_top (half ((nightC c (M.1, 0)).1.2.2 c 1)) (by rw [ex2]; exact half_r hx) ?_
      refine ms_16 C c rfl (by first | assumption | omega) dX7_rots_32 ?_
      refine z_iload_n C 2 dX7_rots_33 rfl ?_
      refine z_iload_n C 0 dX7_rots_34 rfl ?_
      refine z_iadd C dX7_rots_35 ?_
      refine z_top ((nightC (c + 1) (M.1, 0)).2) (by show _ = (nightC c (M.1, 0)).2 + ((nightC c (M.1, 0)).1.2.2 c 1 - half ((nightC c (M.1, 0)).1.2.2 c 1)); rw [ex2, half_s hx]) ?_
      refine z_istore_n (i := 1) C dX7_rots_36 rfl (by decide) ?_
      refine z_iinc C (v := nI (c + 1)) 3 dX7_rots_37 rfl (nI_1 _) (by decide) ?_
      refine z_goto C 4 dX7_rots_40 (by decide) ?_
      refine z_pick [3, 1, 0] rfl ?_
      exact ih (c + 1) (by omega) (by omega)
set_option maxRecDepth 100000 in
set_option maxHeartbeats 4000000 in
theorem c_X7_rots (l : Launch) (E : zE) (M : zM) (hz : gz M.1) {N : Nat} (h : rg N M.1) : MM l E yX7_rots cX7_rots 4 (some .int) 1 [.ref (madr E.2.2.1 (0, 0, 0))] (M) (fun v M2 => v = some (.int (nightL M.1)) ∧ M2 = mG M (nightG M.1)) := by
  refine MM.mk kq_X7 (Nat.le_of_ble_eq_true rfl) (fun K s C0 => ?_)
  have C := C0.c
  obtain ⟨⟨eS, lS⟩, ⟨eC, lC⟩⟩ := id hz
  refine z_iconst C (v := 0) dX7_rots_0 rfl ?_
  refine z_istore_n (i := 1) C dX7_rots_1 rfl (by decide) ?_
  refine z_iconst C (v := 0) dX7_rots_2 rfl ?_
  refine z_istore_n (i := 2) C dX7_rots_3 rfl (by decide) ?_
  refine z_pick [2, 1, 0] rfl ?_
  exact lp_X7_rots_4 M hz h C0 (nC M.1 + 1) 0 (by omega) (by omega)
set_option maxRecDepth 100000 in
set_option maxHeartbeats 4000000 in
theorem lp_X7_greed {l : Launch} {E : zE} {K : zK} {s : State} (M : zM) (hz : gz M.1) (hsm : sms M.1) {c : Nat} (hc6 : c < 6) (lim : Int32) (C0 : MR l E K cX7_greed RX7 3 s 5 (some .int) (fun v M2 => v = some (.int (greedD M.1 c lim)) ∧ M2 = M)) : ∀ (n2 : Nat) (k : Nat), (nS M.1 - k < n2) → (k ≤ nS M.1) → Z K (MP E (M) s) 5 [(0, .ref (madr E.2.2.1 (0, 0, 0))), (1, .int (nI c)), (2, .int (lim)), (3, .int (oI (cheapN M.1 c lim k))), (4, .int (nI k))] [] := by
  have C := C0.c
  intro n2
  induction n2 with
  | zero => intro k hk hkl; exact absurd hk (Nat.not_lt_zero _)
  | succ n2 ih =>
    intro k hk hkl
    obtain ⟨⟨eS, lS⟩, ⟨eC, lC⟩⟩ := id hz
    refine z_iload C 4 dX7_greed_5 rfl ?_
    refine z_aload_n C 0 dX7_greed_7 rfl ?_
    refine mg_0 C dX7_greed_8 ?_
    rw [eS]
    refine z_icmp_ge C 62 dX7_greed_11 (by decide) (fun h11 => ?_) (fun h11 => ?_)
    · skip
      refine z_iload_n C 3 dX7_greed_62 rfl ?_
      refine z_iconst C (v := (-1)) dX7_greed_63 rfl ?_
      refine z_icmp_eq C 74 dX7_greed_64 (by decide) (fun h64 => ?_) (fun h64 => ?_)
      · skip
        refine z_aload_n C 0 dX7_greed_74 rfl ?_
        refine mg_5 C dX7_greed_75 ?_
        refine z_if_le C 85 dX7_greed_78 (by decide) (fun h78 => ?_) (fun h78 => ?_)
        · skip
          refine z_iconst C (v := 0) dX7_greed_85 rfl ?_
          refine z_iret C0 dX7_greed_86 ?_
          have e : k = nS M.1 := by
            rcases Nat.lt_or_ge k (nS M.1) with q | q
            · exact absurd h11 (nI_ge q (by omega))
            · omega
          subst e
          refine ⟨?_, rfl⟩
          rw [greedD_n (cheapN_none h64 (by omega))]
          unfold por
          rw [if_neg (Int32.not_lt.mpr h78)]
        · skip
          refine z_iconst C (v := 1) dX7_greed_81 rfl ?_
          refine z_goto C 86 dX7_greed_82 (by decide) ?_
          refine z_iret C0 dX7_greed_86 ?_
          have e : k = nS M.1 := by
            rcases Nat.lt_or_ge k (nS M.1) with q | q
            · exact absurd h11 (nI_ge q (by omega))
            · omega
          subst e
          refine ⟨?_, rfl⟩
          rw [greedD_n (cheapN_none h64 (by omega))]
          unfold por
          rw [if_pos (Int32.not_le.mp h78)]
      · skip
        refine z_bipush C (v := 10) dX7_greed_67 rfl ?_
        refine z_iload_n C 3 dX7_greed_69 rfl ?_
        refine z_iadd C dX7_greed_70 ?_
        refine z_goto C 86 dX7_greed_71 (by decide) ?_
        refine z_iret C0 dX7_greed_86 ?_
        have e : k = nS M.1 := by
          rcases Nat.lt_or_ge k (nS M.1) with q | q
          · exact absurd h11 (nI_ge q (by omega))
          · omega
        subst e
        obtain ⟨b, hb⟩ := oI_ne h64
        refine ⟨?_, rfl⟩
        rw [greedD_s hb, hb]
        exact congrArg (fun z => some (Value.int z)) (nI_add 10 b)
    · skip
      have hk2 : k < nS M.1 := by
        rcases Nat.lt_or_ge k (nS M.1) with q | q
        · exact q
        · exact absurd (nI_le q (by omega)) h11
      have hk6 : k < 6 := by omega
      refine z_aload_n C 0 dX7_greed_14 rfl ?_
      refine z_iload_n C 1 dX7_greed_15 rfl ?_
      refine z_iload C 4 dX7_greed_16 rfl ?_
      refine z_callV2 C (c_X7_mayBuy l E _ hz hsm hc6 (nI k)) ⟨rfl, rfl⟩ rfl rfl q_X7_222 ⟨by decide, by decide⟩ (Nat.le_of_ble_eq_true rfl) dX7_greed_18 (fun v F9 hp => ?_)
      obtain ⟨rfl, e9⟩ := hp
      rw [e9, mBuy_nI hk2 hz]
      clear e9 F9
      refine z_if_eq C 56 dX7_greed_21 (by decide) (fun h21 => ?_) (fun h21 => ?_)
      · skip
        have h21 := bI_0 h21
        refine z_iinc C (v := nI (k + 1)) 4 dX7_greed_56 rfl (nI_1 _) (by decide) ?_
        refine z_goto C 5 dX7_greed_59 (by decide) ?_
        refine z_pick [1, 2, 3, 4, 0] rfl ?_
        have q := ih (k + 1) (by omega) (by omega)
        rw [cheap_keep (Or.inl h21)] at q
        exact q
      · skip
        have h21 := bI_1 h21
        refine z_aload_n C 0 dX7_greed_24 rfl ?_
        refine z_iload C 4 dX7_greed_25 rfl ?_
        refine z_callV1 C (c_X7_asked l E _ hk6 (hsm k hk2)) ⟨rfl, rfl⟩ rfl rfl q_X7_131 ⟨by decide, by decide⟩ (Nat.le_of_ble_eq_true rfl) dX7_greed_27 (fun v F9 hp => ?_)
        obtain ⟨rfl, e9⟩ := hp
        rw [e9]
        clear e9 F9
        refine z_iload_n C 2 dX7_greed_30 rfl ?_
        refine z_icmp_gt C 56 dX7_greed_31 (by decide) (fun h31 => ?_) (fun h31 => ?_)
        · skip
          refine z_iinc C (v := nI (k + 1)) 4 dX7_greed_56 rfl (nI_1 _) (by decide) ?_
          refine z_goto C 5 dX7_greed_59 (by decide) ?_
          refine z_pick [1, 2, 3, 4, 0] rfl ?_
          have q := ih (k + 1) (by omega) (by omega)
          rw [cheap_keep (Or.inr (Or.inl h31))] at q
          exact q
        · skip
          refine z_iload_n C 3 dX7_greed_34 rfl ?_
          refine z_iconst C (v := (-1)) dX7_greed_35 rfl ?_
          refine z_icmp_eq C 53 dX7_greed_36 (by decide) (fun h36 => ?_) (fun h36 => ?_)
          · skip
            refine z_iload C 4 dX7_greed_53 rfl ?_
            refine z_istore_n (i := 3) C dX7_greed_55 rfl (by decide) ?_
            refine z_iinc C (v := nI (k + 1)) 4 dX7_greed_56 rfl (nI_1 _) (by decide) ?_
            refine z_goto C 5 dX7_greed_59 (by decide) ?_
            refine z_pick [2, 3, 4, 1, 0] rfl ?_
            have q := ih (k + 1) (by omega) (by omega)
            rw [cheap_tk h21 h31 (Or.inl (cheapN_none h36 (by omega)))] at q
            exact q
          · skip
            obtain ⟨b, hb⟩ := oI_ne h36
            have hbk := (cheapN_le hb).2
            refine z_aload_n C 0 dX7_greed_39 rfl ?_
            refine z_iload C 4 dX7_greed_40 rfl ?_
            refine z_callV1 C (c_X7_asked l E _ hk6 (hsm k hk2)) ⟨rfl, rfl⟩ rfl rfl q_X7_131 ⟨by decide, by decide⟩ (Nat.le_of_ble_eq_true rfl) dX7_greed_42 (fun v F9 hp => ?_)
            obtain ⟨rfl, e9⟩ := hp
            rw [e9]
            clear e9 F9
            refine z_aload_n C 0 dX7_greed_45 rfl ?_
            refine z_iload_n C 3 dX7_greed_46 rfl ?_
            refine z_top (nI b) (by rw [hb]; rfl) ?_
            refine z_callV1 C (c_X7_asked l E _ (j := b) (by omega) (hsm b (by omega))) ⟨rfl, rfl⟩ rfl rfl q_X7_131 ⟨by decide, by decide⟩ (Nat.le_of_ble_eq_true rfl) dX7_greed_47 (fun v F9 hp => ?_)
            obtain ⟨rfl, e9⟩ := hp
            rw [e9]
            clear e9 F9
            refine z_icmp_ge C 56 dX7_greed_50 (by decide) (fun h50 => ?_) (fun h50 => ?_)
            · skip
              refine z_iinc C (v := nI (k + 1)) 4 dX7_greed_56 rfl (nI_1 _) (by decide) ?_
              refine z_goto C 5 dX7_greed_59 (by decide) ?_
              refine z_pick [1, 2, 3, 4, 0] rfl ?_
              have q := ih (k + 1) (by omega) (by omega)
              rw [cheap_keep (Or.inr (Or.inr ⟨b, hb, h50⟩))] at q
              exact q
            · skip
              refine z_iload C 4 dX7_greed_53 rfl ?_
              refine z_istore_n (i := 3) C dX7_greed_55 rfl (by decide) ?_
              refine z_iinc C (v := nI (k + 1)) 4 dX7_greed_56 rfl (nI_1 _) (by decide) ?_
              refine z_goto C 5 dX7_greed_59 (by decide) ?_
              refine z_pick [2, 3, 4, 1, 0] rfl ?_
              have q := ih (k + 1) (by omega) (by omega)
              rw [cheap_tk h21 h31 (Or.inr ⟨b, hb, h50⟩)] at q
              exact q
set_option maxRecDepth 100000 in
set_option maxHeartbeats 4000000 in
theorem c_X7_greed (l : Launch) (E : zE) (M : zM) (hz : gz M.1) (hsm : sms M.1) {c : Nat} (hc6 : c < 6) (lim : Int32) : MM l E yX7_greed cX7_greed 5 (some .int) 3 [.ref (madr E.2.2.1 (0, 0, 0)), .int (nI c), .int (lim)] (M) (fun v M2 => v = some (.int (greedD M.1 c lim)) ∧ M2 = M) := by
  refine MM.mk kq_X7 (Nat.le_of_ble_eq_true rfl) (fun K s C0 => ?_)
  have C := C0.c
  obtain ⟨⟨eS, lS⟩, ⟨eC, lC⟩⟩ := id hz
  refine z_iconst C (v := (-1)) dX7_greed_0 rfl ?_
  refine z_istore_n (i := 3) C dX7_greed_1 rfl (by decide) ?_
  refine z_iconst C (v := 0) dX7_greed_2 rfl ?_
  refine z_istore C dX7_greed_3 (by decide) ?_
  refine z_pick [2, 3, 4, 1, 0] rfl ?_
  exact lp_X7_greed M hz hsm hc6 lim C0 (nS M.1 + 1) 0 (by omega) (by omega)
set_option maxRecDepth 100000 in
set_option maxHeartbeats 4000000 in
theorem c_X7_ruled (l : Launch) (E : zE) (M : zM) (hz : gz M.1) (hsm : sms M.1) {N : Nat} (h : rg N M.1) {c : Nat} (hc : c < nC M.1) (rule : Int32) : MM l E yX7_ruled cX7_ruled 4 (some .int) 4 [.ref (madr E.2.2.1 (0, 0, 0)), .int (rule), .int (nI c)] (M) (fun v M2 => v = some (.int (deedBy M.1 rule c)) ∧ M2 = M) := by
  refine MM.mk kq_X7 (Nat.le_of_ble_eq_true rfl) (fun K s C0 => ?_)
  have C := C0.c
  obtain ⟨⟨eS, lS⟩, ⟨eC, lC⟩⟩ := id hz
  have hc6 : c < 6 := Nat.lt_of_lt_of_le hc lC
  refine z_iload_n C 1 dX7_ruled_0 rfl ?_
  refine z_iconst C (v := 1) dX7_ruled_1 rfl ?_
  refine z_icmp_ne C 20 dX7_ruled_2 (by decide) (fun h2 => ?_) (fun h2 => ?_)
  · skip
    refine z_iload_n C 1 dX7_ruled_20 rfl ?_
    refine z_iconst C (v := 2) dX7_ruled_21 rfl ?_
    refine z_icmp_ne C 44 dX7_ruled_22 (by decide) (fun h22 => ?_) (fun h22 => ?_)
    · skip
      refine z_aload_n C 0 dX7_ruled_44 rfl ?_
      refine z_iload_n C 2 dX7_ruled_45 rfl ?_
      refine z_iload_n C 1 dX7_ruled_46 rfl ?_
      refine z_iconst C (v := 3) dX7_ruled_47 rfl ?_
      refine z_icmp_ne C 63 dX7_ruled_48 (by decide) (fun h48 => ?_) (fun h48 => ?_)
      · skip
        refine z_sipush C (v := 9999) dX7_ruled_63 rfl ?_
        refine z_callV2 C (c_X7_greed l E _ hz hsm hc6 _) ⟨rfl, rfl⟩ rfl rfl q_X7_231 ⟨by decide, by decide⟩ (Nat.le_of_ble_eq_true rfl) dX7_ruled_66 (fun v F9 hp => ?_)
        obtain ⟨rfl, e9⟩ := hp
        rw [e9]
        clear e9 F9
        refine z_istore_n (i := 3) C dX7_ruled_69 rfl (by decide) ?_
        refine z_aload_n C 1 dX7_ruled_70 rfl ?_
        refine z_iload_n C 3 dX7_ruled_71 rfl ?_
        refine z_iload_n C 0 dX7_ruled_72 rfl ?_
        refine z_callV2 C (c_X7_mayBe l E _ hz hsm hc6 _) ⟨rfl, rfl⟩ rfl rfl q_X7_170 ⟨by decide, by decide⟩ (Nat.le_of_ble_eq_true rfl) dX7_ruled_73 (fun v F9 hp => ?_)
        obtain ⟨rfl, e9⟩ := hp
        rw [e9]
        clear e9 F9
        refine z_if_eq C 83 dX7_ruled_76 (by decide) (fun h76 => ?_) (fun h76 => ?_)
        · skip
          have h76 := bI_0 h76
          refine z_iconst C (v := 0) dX7_ruled_83 rfl ?_
          refine z_iret C0 dX7_ruled_84 ?_
          exact absurd ((greed_can hz).symm.trans h76) (by decide)
        · skip
          have h76 := bI_1 h76
          refine z_iload_n C 0 dX7_ruled_79 rfl ?_
          refine z_goto C 84 dX7_ruled_80 (by decide) ?_
          refine z_iret C0 dX7_ruled_84 ?_
          refine ⟨?_, rfl⟩
          unfold deedBy limR
          rw [if_neg (fun z => h2 z.1), if_neg (fun z => h22 z.1), if_neg h48]
      · skip
        refine z_bipush C (v := 10) dX7_ruled_51 rfl ?_
        refine z_aload_n C 0 dX7_ruled_53 rfl ?_
        refine mg_15 C dX7_ruled_54 ?_
        refine z_iload_n C 2 dX7_ruled_57 rfl ?_
        refine ml_15 C c rfl (by first | assumption | omega) dX7_ruled_58 ?_
        refine z_imul C dX7_ruled_59 ?_
        refine z_goto C 66 dX7_ruled_60 (by decide) ?_
        refine z_callV2 C (c_X7_greed l E _ hz hsm hc6 _) ⟨rfl, rfl⟩ rfl rfl q_X7_231 ⟨by decide, by decide⟩ (Nat.le_of_ble_eq_true rfl) dX7_ruled_66 (fun v F9 hp => ?_)
        obtain ⟨rfl, e9⟩ := hp
        rw [e9]
        clear e9 F9
        refine z_istore_n (i := 3) C dX7_ruled_69 rfl (by decide) ?_
        refine z_aload_n C 1 dX7_ruled_70 rfl ?_
        refine z_iload_n C 3 dX7_ruled_71 rfl ?_
        refine z_iload_n C 0 dX7_ruled_72 rfl ?_
        refine z_callV2 C (c_X7_mayBe l E _ hz hsm hc6 _) ⟨rfl, rfl⟩ rfl rfl q_X7_170 ⟨by decide, by decide⟩ (Nat.le_of_ble_eq_true rfl) dX7_ruled_73 (fun v F9 hp => ?_)
        obtain ⟨rfl, e9⟩ := hp
        rw [e9]
        clear e9 F9
        refine z_if_eq C 83 dX7_ruled_76 (by decide) (fun h76 => ?_) (fun h76 => ?_)
        · skip
          have h76 := bI_0 h76
          refine z_iconst C (v := 0) dX7_ruled_83 rfl ?_
          refine z_iret C0 dX7_ruled_84 ?_
          exact absurd ((greed_can hz).symm.trans h76) (by decide)
        · skip
          have h76 := bI_1 h76
          refine z_iload_n C 0 dX7_ruled_79 rfl ?_
          refine z_goto C 84 dX7_ruled_80 (by decide) ?_
          refine z_iret C0 dX7_ruled_84 ?_
          refine ⟨?_, rfl⟩
          unfold deedBy limR
          rw [if_neg (fun z => h2 z.1), if_neg (fun z => h22 z.1), if_pos h48]
    · skip
      refine z_aload_n C 0 dX7_ruled_25 rfl ?_
      refine mg_16 C dX7_ruled_26 ?_
      refine z_iload_n C 2 dX7_ruled_29 rfl ?_
      refine ml_16 C c rfl (by first | assumption | omega) dX7_ruled_30 ?_
      refine z_aload_n C 0 dX7_ruled_31 rfl ?_
      refine mg_17 C dX7_ruled_32 ?_
      refine z_iload_n C 2 dX7_ruled_35 rfl ?_
      refine ml_17 C c rfl (by first | assumption | omega) dX7_ruled_36 ?_
      refine z_icmp_le C 44 dX7_ruled_37 (by decide) (fun h37 => ?_) (fun h37 => ?_)
      · skip
        refine z_aload_n C 0 dX7_ruled_44 rfl ?_
        refine z_iload_n C 2 dX7_ruled_45 rfl ?_
        refine z_iload_n C 1 dX7_ruled_46 rfl ?_
        refine z_iconst C (v := 3) dX7_ruled_47 rfl ?_
        refine z_icmp_ne C 63 dX7_ruled_48 (by decide) (fun h48 => ?_) (fun h48 => ?_)
        · skip
          refine z_sipush C (v := 9999) dX7_ruled_63 rfl ?_
          refine z_callV2 C (c_X7_greed l E _ hz hsm hc6 _) ⟨rfl, rfl⟩ rfl rfl q_X7_231 ⟨by decide, by decide⟩ (Nat.le_of_ble_eq_true rfl) dX7_ruled_66 (fun v F9 hp => ?_)
          obtain ⟨rfl, e9⟩ := hp
          rw [e9]
          clear e9 F9
          refine z_istore_n (i := 3) C dX7_ruled_69 rfl (by decide) ?_
          refine z_aload_n C 1 dX7_ruled_70 rfl ?_
          refine z_iload_n C 3 dX7_ruled_71 rfl ?_
          refine z_iload_n C 0 dX7_ruled_72 rfl ?_
          refine z_callV2 C (c_X7_mayBe l E _ hz hsm hc6 _) ⟨rfl, rfl⟩ rfl rfl q_X7_170 ⟨by decide, by decide⟩ (Nat.le_of_ble_eq_true rfl) dX7_ruled_73 (fun v F9 hp => ?_)
          obtain ⟨rfl, e9⟩ := hp
          rw [e9]
          clear e9 F9
          refine z_if_eq C 83 dX7_ruled_76 (by decide) (fun h76 => ?_) (fun h76 => ?_)
          · skip
            have h76 := bI_0 h76
            refine z_iconst C (v := 0) dX7_ruled_83 rfl ?_
            refine z_iret C0 dX7_ruled_84 ?_
            exact absurd ((greed_can hz).symm.trans h76) (by decide)
          · skip
            have h76 := bI_1 h76
            refine z_iload_n C 0 dX7_ruled_79 rfl ?_
            refine z_goto C 84 dX7_ruled_80 (by decide) ?_
            refine z_iret C0 dX7_ruled_84 ?_
            refine ⟨?_, rfl⟩
            unfold deedBy limR
            rw [if_neg (fun z => h2 z.1), if_neg (fun z => absurd z.2 (Int32.not_lt.mpr h37)), if_neg h48]
        · skip
          refine z_bipush C (v := 10) dX7_ruled_51 rfl ?_
          refine z_aload_n C 0 dX7_ruled_53 rfl ?_
          refine mg_15 C dX7_ruled_54 ?_
          refine z_iload_n C 2 dX7_ruled_57 rfl ?_
          refine ml_15 C c rfl (by first | assumption | omega) dX7_ruled_58 ?_
          refine z_imul C dX7_ruled_59 ?_
          refine z_goto C 66 dX7_ruled_60 (by decide) ?_
          refine z_callV2 C (c_X7_greed l E _ hz hsm hc6 _) ⟨rfl, rfl⟩ rfl rfl q_X7_231 ⟨by decide, by decide⟩ (Nat.le_of_ble_eq_true rfl) dX7_ruled_66 (fun v F9 hp => ?_)
          obtain ⟨rfl, e9⟩ := hp
          rw [e9]
          clear e9 F9
          refine z_istore_n (i := 3) C dX7_ruled_69 rfl (by decide) ?_
          refine z_aload_n C 1 dX7_ruled_70 rfl ?_
          refine z_iload_n C 3 dX7_ruled_71 rfl ?_
          refine z_iload_n C 0 dX7_ruled_72 rfl ?_
          refine z_callV2 C (c_X7_mayBe l E _ hz hsm hc6 _) ⟨rfl, rfl⟩ rfl rfl q_X7_170 ⟨by decide, by decide⟩ (Nat.le_of_ble_eq_true rfl) dX7_ruled_73 (fun v F9 hp => ?_)
          obtain ⟨rfl, e9⟩ := hp
          rw [e9]
          clear e9 F9
          refine z_if_eq C 83 dX7_ruled_76 (by decide) (fun h76 => ?_) (fun h76 => ?_)
          · skip
            have h76 := bI_0 h76
            refine z_iconst C (v := 0) dX7_ruled_83 rfl ?_
            refine z_iret C0 dX7_ruled_84 ?_
            exact absurd ((greed_can hz).symm.trans h76) (by decide)
          · skip
            have h76 := bI_1 h76
            refine z_iload_n C 0 dX7_ruled_79 rfl ?_
            refine z_goto C 84 dX7_ruled_80 (by decide) ?_
            refine z_iret C0 dX7_ruled_84 ?_
            refine ⟨?_, rfl⟩
            unfold deedBy limR
            rw [if_neg (fun z => h2 z.1), if_neg (fun z => absurd z.2 (Int32.not_lt.mpr h37)), if_pos h48]
      · skip
        refine z_iconst C (v := 2) dX7_ruled_40 rfl ?_
        refine z_goto C 69 dX7_ruled_41 (by decide) ?_
        refine z_istore_n (i := 3) C dX7_ruled_69 rfl (by decide) ?_
        refine z_aload_n C 1 dX7_ruled_70 rfl ?_
        refine z_iload_n C 3 dX7_ruled_71 rfl ?_
        refine z_iload_n C 0 dX7_ruled_72 rfl ?_
        refine z_callV2 C (c_X7_mayBe l E _ hz hsm hc6 _) ⟨rfl, rfl⟩ rfl rfl q_X7_170 ⟨by decide, by decide⟩ (Nat.le_of_ble_eq_true rfl) dX7_ruled_73 (fun v F9 hp => ?_)
        obtain ⟨rfl, e9⟩ := hp
        rw [e9]
        clear e9 F9
        refine z_if_eq C 83 dX7_ruled_76 (by decide) (fun h76 => ?_) (fun h76 => ?_)
        · skip
          have h76 := bI_0 h76
          refine z_iconst C (v := 0) dX7_ruled_83 rfl ?_
          refine z_iret C0 dX7_ruled_84 ?_
          refine ⟨?_, rfl⟩
          unfold deedBy
          rw [if_neg (fun z => h2 z.1), if_pos ⟨h22, Int32.not_le.mp h37⟩, if_neg (can_2n (h.2.1 c hc) (Int32.not_le.mp h37) h76)]
        · skip
          have h76 := bI_1 h76
          refine z_iload_n C 0 dX7_ruled_79 rfl ?_
          refine z_goto C 84 dX7_ruled_80 (by decide) ?_
          refine z_iret C0 dX7_ruled_84 ?_
          refine ⟨?_, rfl⟩
          unfold deedBy
          rw [if_neg (fun z => h2 z.1), if_pos ⟨h22, Int32.not_le.mp h37⟩, if_pos (can_2 h76).1]
  · skip
    refine z_aload_n C 0 dX7_ruled_5 rfl ?_
    refine mg_16 C dX7_ruled_6 ?_
    refine z_iload_n C 2 dX7_ruled_9 rfl ?_
    refine ml_16 C c rfl (by first | assumption | omega) dX7_ruled_10 ?_
    refine z_bipush C (v := 50) dX7_ruled_11 rfl ?_
    refine z_icmp_ge C 20 dX7_ruled_13 (by decide) (fun h13 => ?_) (fun h13 => ?_)
    · skip
      refine z_iload_n C 1 dX7_ruled_20 rfl ?_
      refine z_iconst C (v := 2) dX7_ruled_21 rfl ?_
      refine z_icmp_ne C 44 dX7_ruled_22 (by decide) (fun h22 => ?_) (fun h22 => ?_)
      · skip
        refine z_aload_n C 0 dX7_ruled_44 rfl ?_
        refine z_iload_n C 2 dX7_ruled_45 rfl ?_
        refine z_iload_n C 1 dX7_ruled_46 rfl ?_
        refine z_iconst C (v := 3) dX7_ruled_47 rfl ?_
        refine z_icmp_ne C 63 dX7_ruled_48 (by decide) (fun h48 => ?_) (fun h48 => ?_)
        · skip
          refine z_sipush C (v := 9999) dX7_ruled_63 rfl ?_
          refine z_callV2 C (c_X7_greed l E _ hz hsm hc6 _) ⟨rfl, rfl⟩ rfl rfl q_X7_231 ⟨by decide, by decide⟩ (Nat.le_of_ble_eq_true rfl) dX7_ruled_66 (fun v F9 hp => ?_)
          obtain ⟨rfl, e9⟩ := hp
          rw [e9]
          clear e9 F9
          refine z_istore_n (i := 3) C dX7_ruled_69 rfl (by decide) ?_
          refine z_aload_n C 1 dX7_ruled_70 rfl ?_
          refine z_iload_n C 3 dX7_ruled_71 rfl ?_
          refine z_iload_n C 0 dX7_ruled_72 rfl ?_
          refine z_callV2 C (c_X7_mayBe l E _ hz hsm hc6 _) ⟨rfl, rfl⟩ rfl rfl q_X7_170 ⟨by decide, by decide⟩ (Nat.le_of_ble_eq_true rfl) dX7_ruled_73 (fun v F9 hp => ?_)
          obtain ⟨rfl, e9⟩ := hp
          rw [e9]
          clear e9 F9
          refine z_if_eq C 83 dX7_ruled_76 (by decide) (fun h76 => ?_) (fun h76 => ?_)
          · skip
            have h76 := bI_0 h76
            refine z_iconst C (v := 0) dX7_ruled_83 rfl ?_
            refine z_iret C0 dX7_ruled_84 ?_
            exact absurd ((greed_can hz).symm.trans h76) (by decide)
          · skip
            have h76 := bI_1 h76
            refine z_iload_n C 0 dX7_ruled_79 rfl ?_
            refine z_goto C 84 dX7_ruled_80 (by decide) ?_
            refine z_iret C0 dX7_ruled_84 ?_
            refine ⟨?_, rfl⟩
            unfold deedBy limR
            rw [if_neg (fun z => absurd z.2 (Int32.not_lt.mpr h13)), if_neg (fun z => h22 z.1), if_neg h48]
        · skip
          refine z_bipush C (v := 10) dX7_ruled_51 rfl ?_
          refine z_aload_n C 0 dX7_ruled_53 rfl ?_
          refine mg_15 C dX7_ruled_54 ?_
          refine z_iload_n C 2 dX7_ruled_57 rfl ?_
          refine ml_15 C c rfl (by first | assumption | omega) dX7_ruled_58 ?_
          refine z_imul C dX7_ruled_59 ?_
          refine z_goto C 66 dX7_ruled_60 (by decide) ?_
          refine z_callV2 C (c_X7_greed l E _ hz hsm hc6 _) ⟨rfl, rfl⟩ rfl rfl q_X7_231 ⟨by decide, by decide⟩ (Nat.le_of_ble_eq_true rfl) dX7_ruled_66 (fun v F9 hp => ?_)
          obtain ⟨rfl, e9⟩ := hp
          rw [e9]
          clear e9 F9
          refine z_istore_n (i := 3) C dX7_ruled_69 rfl (by decide) ?_
          refine z_aload_n C 1 dX7_ruled_70 rfl ?_
          refine z_iload_n C 3 dX7_ruled_71 rfl ?_
          refine z_iload_n C 0 dX7_ruled_72 rfl ?_
          refine z_callV2 C (c_X7_mayBe l E _ hz hsm hc6 _) ⟨rfl, rfl⟩ rfl rfl q_X7_170 ⟨by decide, by decide⟩ (Nat.le_of_ble_eq_true rfl) dX7_ruled_73 (fun v F9 hp => ?_)
          obtain ⟨rfl, e9⟩ := hp
          rw [e9]
          clear e9 F9
          refine z_if_eq C 83 dX7_ruled_76 (by decide) (fun h76 => ?_) (fun h76 => ?_)
          · skip
            have h76 := bI_0 h76
            refine z_iconst C (v := 0) dX7_ruled_83 rfl ?_
            refine z_iret C0 dX7_ruled_84 ?_
            exact absurd ((greed_can hz).symm.trans h76) (by decide)
          · skip
            have h76 := bI_1 h76
            refine z_iload_n C 0 dX7_ruled_79 rfl ?_
            refine z_goto C 84 dX7_ruled_80 (by decide) ?_
            refine z_iret C0 dX7_ruled_84 ?_
            refine ⟨?_, rfl⟩
            unfold deedBy limR
            rw [if_neg (fun z => absurd z.2 (Int32.not_lt.mpr h13)), if_neg (fun z => h22 z.1), if_pos h48]
      · skip
        refine z_aload_n C 0 dX7_ruled_25 rfl ?_
        refine mg_16 C dX7_ruled_26 ?_
        refine z_iload_n C 2 dX7_ruled_29 rfl ?_
        refine ml_16 C c rfl (by first | assumption | omega) dX7_ruled_30 ?_
        refine z_aload_n C 0 dX7_ruled_31 rfl ?_
        refine mg_17 C dX7_ruled_32 ?_
        refine z_iload_n C 2 dX7_ruled_35 rfl ?_
        refine ml_17 C c rfl (by first | assumption | omega) dX7_ruled_36 ?_
        refine z_icmp_le C 44 dX7_ruled_37 (by decide) (fun h37 => ?_) (fun h37 => ?_)
        · skip
          refine z_aload_n C 0 dX7_ruled_44 rfl ?_
          refine z_iload_n C 2 dX7_ruled_45 rfl ?_
          refine z_iload_n C 1 dX7_ruled_46 rfl ?_
          refine z_iconst C (v := 3) dX7_ruled_47 rfl ?_
          refine z_icmp_ne C 63 dX7_ruled_48 (by decide) (fun h48 => ?_) (fun h48 => ?_)
          · skip
            refine z_sipush C (v := 9999) dX7_ruled_63 rfl ?_
            refine z_callV2 C (c_X7_greed l E _ hz hsm hc6 _) ⟨rfl, rfl⟩ rfl rfl q_X7_231 ⟨by decide, by decide⟩ (Nat.le_of_ble_eq_true rfl) dX7_ruled_66 (fun v F9 hp => ?_)
            obtain ⟨rfl, e9⟩ := hp
            rw [e9]
            clear e9 F9
            refine z_istore_n (i := 3) C dX7_ruled_69 rfl (by decide) ?_
            refine z_aload_n C 1 dX7_ruled_70 rfl ?_
            refine z_iload_n C 3 dX7_ruled_71 rfl ?_
            refine z_iload_n C 0 dX7_ruled_72 rfl ?_
            refine z_callV2 C (c_X7_mayBe l E _ hz hsm hc6 _) ⟨rfl, rfl⟩ rfl rfl q_X7_170 ⟨by decide, by decide⟩ (Nat.le_of_ble_eq_true rfl) dX7_ruled_73 (fun v F9 hp => ?_)
            obtain ⟨rfl, e9⟩ := hp
            rw [e9]
            clear e9 F9
            refine z_if_eq C 83 dX7_ruled_76 (by decide) (fun h76 => ?_) (fun h76 => ?_)
            · skip
              have h76 := bI_0 h76
              refine z_iconst C (v := 0) dX7_ruled_83 rfl ?_
              refine z_iret C0 dX7_ruled_84 ?_
              exact absurd ((greed_can hz).symm.trans h76) (by decide)
            · skip
              have h76 := bI_1 h76
              refine z_iload_n C 0 dX7_ruled_79 rfl ?_
              refine z_goto C 84 dX7_ruled_80 (by decide) ?_
              refine z_iret C0 dX7_ruled_84 ?_
              refine ⟨?_, rfl⟩
              unfold deedBy limR
              rw [if_neg (fun z => absurd z.2 (Int32.not_lt.mpr h13)), if_neg (fun z => absurd z.2 (Int32.not_lt.mpr h37)), if_neg h48]
          · skip
            refine z_bipush C (v := 10) dX7_ruled_51 rfl ?_
            refine z_aload_n C 0 dX7_ruled_53 rfl ?_
            refine mg_15 C dX7_ruled_54 ?_
            refine z_iload_n C 2 dX7_ruled_57 rfl ?_
            refine ml_15 C c rfl (by first | assumption | omega) dX7_ruled_58 ?_
            refine z_imul C dX7_ruled_59 ?_
            refine z_goto C 66 dX7_ruled_60 (by decide) ?_
            refine z_callV2 C (c_X7_greed l E _ hz hsm hc6 _) ⟨rfl, rfl⟩ rfl rfl q_X7_231 ⟨by decide, by decide⟩ (Nat.le_of_ble_eq_true rfl) dX7_ruled_66 (fun v F9 hp => ?_)
            obtain ⟨rfl, e9⟩ := hp
            rw [e9]
            clear e9 F9
            refine z_istore_n (i := 3) C dX7_ruled_69 rfl (by decide) ?_
            refine z_aload_n C 1 dX7_ruled_70 rfl ?_
            refine z_iload_n C 3 dX7_ruled_71 rfl ?_
            refine z_iload_n C 0 dX7_ruled_72 rfl ?_
            refine z_callV2 C (c_X7_mayBe l E _ hz hsm hc6 _) ⟨rfl, rfl⟩ rfl rfl q_X7_170 ⟨by decide, by decide⟩ (Nat.le_of_ble_eq_true rfl) dX7_ruled_73 (fun v F9 hp => ?_)
            obtain ⟨rfl, e9⟩ := hp
            rw [e9]
            clear e9 F9
            refine z_if_eq C 83 dX7_ruled_76 (by decide) (fun h76 => ?_) (fun h76 => ?_)
            · skip
              have h76 := bI_0 h76
              refine z_iconst C (v := 0) dX7_ruled_83 rfl ?_
              refine z_iret C0 dX7_ruled_84 ?_
              exact absurd ((greed_can hz).symm.trans h76) (by decide)
            · skip
              have h76 := bI_1 h76
              refine z_iload_n C 0 dX7_ruled_79 rfl ?_
              refine z_goto C 84 dX7_ruled_80 (by decide) ?_
              refine z_iret C0 dX7_ruled_84 ?_
              refine ⟨?_, rfl⟩
              unfold deedBy limR
              rw [if_neg (fun z => absurd z.2 (Int32.not_lt.mpr h13)), if_neg (fun z => absurd z.2 (Int32.not_lt.mpr h37)), if_pos h48]
        · skip
          refine z_iconst C (v := 2) dX7_ruled_40 rfl ?_
          refine z_goto C 69 dX7_ruled_41 (by decide) ?_
          refine z_istore_n (i := 3) C dX7_ruled_69 rfl (by decide) ?_
          refine z_aload_n C 1 dX7_ruled_70 rfl ?_
          refine z_iload_n C 3 dX7_ruled_71 rfl ?_
          refine z_iload_n C 0 dX7_ruled_72 rfl ?_
          refine z_callV2 C (c_X7_mayBe l E _ hz hsm hc6 _) ⟨rfl, rfl⟩ rfl rfl q_X7_170 ⟨by decide, by decide⟩ (Nat.le_of_ble_eq_true rfl) dX7_ruled_73 (fun v F9 hp => ?_)
          obtain ⟨rfl, e9⟩ := hp
          rw [e9]
          clear e9 F9
          refine z_if_eq C 83 dX7_ruled_76 (by decide) (fun h76 => ?_) (fun h76 => ?_)
          · skip
            have h76 := bI_0 h76
            refine z_iconst C (v := 0) dX7_ruled_83 rfl ?_
            refine z_iret C0 dX7_ruled_84 ?_
            refine ⟨?_, rfl⟩
            unfold deedBy
            rw [if_neg (fun z => absurd z.2 (Int32.not_lt.mpr h13)), if_pos ⟨h22, Int32.not_le.mp h37⟩, if_neg (can_2n (h.2.1 c hc) (Int32.not_le.mp h37) h76)]
          · skip
            have h76 := bI_1 h76
            refine z_iload_n C 0 dX7_ruled_79 rfl ?_
            refine z_goto C 84 dX7_ruled_80 (by decide) ?_
            refine z_iret C0 dX7_ruled_84 ?_
            refine ⟨?_, rfl⟩
            unfold deedBy
            rw [if_neg (fun z => absurd z.2 (Int32.not_lt.mpr h13)), if_pos ⟨h22, Int32.not_le.mp h37⟩, if_pos (can_2 h76).1]
    · skip
      refine z_iconst C (v := 1) dX7_ruled_16 rfl ?_
      refine z_goto C 69 dX7_ruled_17 (by decide) ?_
      refine z_istore_n (i := 3) C dX7_ruled_69 rfl (by decide) ?_
      refine z_aload_n C 1 dX7_ruled_70 rfl ?_
      refine z_iload_n C 3 dX7_ruled_71 rfl ?_
      refine z_iload_n C 0 dX7_ruled_72 rfl ?_
      refine z_callV2 C (c_X7_mayBe l E _ hz hsm hc6 _) ⟨rfl, rfl⟩ rfl rfl q_X7_170 ⟨by decide, by decide⟩ (Nat.le_of_ble_eq_true rfl) dX7_ruled_73 (fun v F9 hp => ?_)
      obtain ⟨rfl, e9⟩ := hp
      rw [e9]
      clear e9 F9
      refine z_if_eq C 83 dX7_ruled_76 (by decide) (fun h76 => ?_) (fun h76 => ?_)
      · skip
        have h76 := bI_0 h76
        refine z_iconst C (v := 0) dX7_ruled_83 rfl ?_
        refine z_iret C0 dX7_ruled_84 ?_
        refine ⟨?_, rfl⟩
        unfold deedBy por
        rw [if_pos ⟨h2, Int32.not_le.mp h13⟩, if_neg (of_decide_eq_false (show decide (0 < M.1.1 5) = false from h76))]
      · skip
        have h76 := bI_1 h76
        refine z_iload_n C 0 dX7_ruled_79 rfl ?_
        refine z_goto C 84 dX7_ruled_80 (by decide) ?_
        refine z_iret C0 dX7_ruled_84 ?_
        refine ⟨?_, rfl⟩
        unfold deedBy por
        rw [if_pos ⟨h2, Int32.not_le.mp h13⟩, if_pos (of_decide_eq_true (show decide (0 < M.1.1 5) = true from h76))]
set_option maxRecDepth 100000 in
set_option maxHeartbeats 4000000 in
theorem lp_X7_lives {l : Launch} {E : zE} {K : zK} {s : State} (M : zM) (hz : gz M.1) {N : Nat} (h : rg N M.1) (hN : N + 6 ≤ 134217728) (rule : Int32) (G : zGf) (hG : G.1 = M.1) {B : Nat → Int32} (hB : ∀ s, s < nS G.1 → B s = G.1.2.1 s 3) (C0 : MR l E K cX7_lives RX7 5 s 3 none (fun v M2 => v = none ∧ ∃ B, M2 = mB M (minute rule G).1 B)) : ∀ (n2 : Nat) (c : Nat), (nC G.1 - c < n2) → (c ≤ nC G.1) → Z K (MP E (mB M (kidsN (fun G c => deedBy G.1 rule c) c (begM G)).1 B) s) 6 [(0, .ref (madr E.2.2.1 (0, 0, 0))), (1, .int (rule)), (2, .int (nI c))] [] := by
  have C := C0.c
  intro n2
  induction n2 with
  | zero => intro c hk hkl; exact absurd hk (Nat.not_lt_zero _)
  | succ n2 ih =>
    intro c hk hkl
    have hzG : gz G.1 := by rw [hG]; exact hz
    have hrG : rg N G.1 := by rw [hG]; exact h
    obtain ⟨⟨eS, lS⟩, ⟨eC, lC⟩⟩ := id hzG
    have sI : sk G.1 (kidsN (fun G c => deedBy G.1 rule c) c (begM G)).1 := sk_kids (G := begM G) (n := c)
    refine z_iload_n C 2 dX7_lives_6 rfl ?_
    refine z_aload_n C 0 dX7_lives_7 rfl ?_
    refine mg_1 C dX7_lives_8 ?_
    refine z_top (nI (nC G.1)) (by show (kidsN (fun G c => deedBy G.1 rule c) c (begM G)).1.1 1 = _; rw [sI.2.1]; exact eC) ?_
    refine z_icmp_ge C 31 dX7_lives_11 (by decide) (fun h11 => ?_) (fun h11 => ?_)
    · skip
      have ec : c = nC G.1 := by
        rcases Nat.lt_or_ge c (nC G.1) with q | q
        · exact absurd h11 (nI_ge q (by omega))
        · omega
      have zI : gz (kidsN (fun G c => deedBy G.1 rule c) c (begM G)).1 := sI.z hzG
      have rI : rg (N + c) (kidsN (fun G c => deedBy G.1 rule c) c (begM G)).1 := rg_kids (G := begM G) hzG hrG (show c ≤ nC G.1 by omega) (by omega)
      refine z_aload_n C 0 dX7_lives_31 rfl ?_
      refine z_callV0 C (c_X7_ends l E (mB M (kidsN (fun G c => deedBy G.1 rule c) c (begM G)).1 B) zI) ⟨rfl, rfl⟩ rfl rfl q_X7_240 ⟨by decide, by decide⟩ (Nat.le_of_ble_eq_true rfl) dX7_lives_32 (fun v F9 hp => ?_)
      obtain ⟨rfl, e9⟩ := hp
      rw [e9]
      clear e9 F9
      refine z_vret C0 dX7_lives_35 ?_
      subst ec
      have e := ed_endM (Y := (kidsN (fun G c => deedBy G.1 rule c) (nC G.1) (begM G))) (B := B) hB sI (kidsN_2 (G := begM G)) (so_kids hzG (fun _ _ => deed_dd)) (by omega) rI
      refine ⟨rfl, B, ?_⟩
      show _ = mB M (endM (kidsN (fun G c => deedBy G.1 rule c) (nC G.1) (begM G))).1 B
      rw [← e, show nS G.1 = nS (kidsN (fun G c => deedBy G.1 rule c) (nC G.1) (begM G)).1 from sI.S.symm, show G.1.1 2 = (kidsN (fun G c => deedBy G.1 rule c) (nC G.1) (begM G)).1.1 2 from (kidsN_2 (G := begM G)).symm]
      rfl
    · skip
      have hc2 : c < nC G.1 := by
        rcases Nat.lt_or_ge c (nC G.1) with q | q
        · exact q
        · exact absurd (nI_le q (by omega)) h11
      have zI : gz (kidsN (fun G c => deedBy G.1 rule c) c (begM G)).1 := sI.z hzG
      have rI : rg (N + c) (kidsN (fun G c => deedBy G.1 rule c) c (begM G)).1 := rg_kids (G := begM G) hzG hrG (show c ≤ nC G.1 by omega) (by omega)
      have mI := rI.sm (show N + c ≤ 134217728 by omega)
      have hcI : c < nC (kidsN (fun G c => deedBy G.1 rule c) c (begM G)).1 := by rw [sI.C]; exact hc2
      refine z_aload_n C 0 dX7_lives_14 rfl ?_
      refine z_iload_n C 2 dX7_lives_15 rfl ?_
      refine z_aload_n C 0 dX7_lives_16 rfl ?_
      refine z_iload_n C 1 dX7_lives_17 rfl ?_
      refine z_iload_n C 2 dX7_lives_18 rfl ?_
      refine z_callV2 C (c_X7_ruled l E (mB M (kidsN (fun G c => deedBy G.1 rule c) c (begM G)).1 B) zI mI rI hcI rule) ⟨rfl, rfl⟩ rfl rfl q_X7_237 ⟨by decide, by decide⟩ (Nat.le_of_ble_eq_true rfl) dX7_lives_19 (fun v F9 hp => ?_)
      obtain ⟨rfl, e9⟩ := hp
      rw [e9]
      clear e9 F9
      refine z_callV2 C (c_X7_makes l E (mB M (kidsN (fun G c => deedBy G.1 rule c) c (begM G)).1 B) zI mI rI hcI deed_dd) ⟨rfl, rfl⟩ rfl rfl q_X7_187 ⟨by decide, by decide⟩ (Nat.le_of_ble_eq_true rfl) dX7_lives_22 (fun v F9 hp => ?_)
      obtain ⟨rfl, e9⟩ := hp
      rw [e9]
      clear e9 F9
      refine z_iinc C (v := nI (c + 1)) 2 dX7_lives_25 rfl (nI_1 _) (by decide) ?_
      refine z_goto C 6 dX7_lives_28 (by decide) ?_
      refine z_pick [1, 2, 0] rfl ?_
      exact ih (c + 1) (by omega) (by omega)
set_option maxRecDepth 100000 in
set_option maxHeartbeats 4000000 in
theorem c_X7_lives (l : Launch) (E : zE) (M : zM) (hz : gz M.1) {N : Nat} (h : rg N M.1) (hN : N + 6 ≤ 134217728) (rule : Int32) (G : zGf) (hG : G.1 = M.1) : MM l E yX7_lives cX7_lives 3 none 5 [.ref (madr E.2.2.1 (0, 0, 0)), .int (rule)] (M) (fun v M2 => v = none ∧ ∃ B, M2 = mB M (minute rule G).1 B) := by
  refine MM.mk kq_X7 (Nat.le_of_ble_eq_true rfl) (fun K s C0 => ?_)
  have C := C0.c
  have hzG : gz G.1 := by rw [hG]; exact hz
  have hrG : rg N G.1 := by rw [hG]; exact h
  obtain ⟨⟨eS, lS⟩, ⟨eC, lC⟩⟩ := id hzG
  refine z_aload_n C 0 dX7_lives_0 rfl ?_
  refine z_callV0 C (c_X7_begins l E _ hz) ⟨rfl, rfl⟩ rfl rfl q_X7_234 ⟨by decide, by decide⟩ (Nat.le_of_ble_eq_true rfl) dX7_lives_1 (fun v F9 hp => ?_)
  obtain ⟨rfl, e9⟩ := hp
  rw [e9]
  clear e9 F9
  refine z_iconst C (v := 0) dX7_lives_4 rfl ?_
  refine z_istore_n (i := 2) C dX7_lives_5 rfl (by decide) ?_
  refine z_pick [1, 2, 0] rfl ?_
  have q := lp_X7_lives M hz h hN rule G hG (B := bgN M.1 (M.2.2.1 38) (nS M.1)) (fun s hs => by rw [hG] at hs ⊢; exact if_pos hs) C0 (nC G.1 + 1) 0 (by omega) (by omega)
  rw [show (kidsN (fun G c => deedBy G.1 rule c) 0 (begM G)).1 = M.1 from hG] at q
  exact q
set_option maxRecDepth 100000 in
set_option maxHeartbeats 4000000 in
theorem lp_X7_livesOn {l : Launch} {E : zE} {K : zK} {s : State} (M : zM) (hz : gz M.1) {N : Nat} (h : rg N M.1) (rule : Int32) {n : Nat} (hn : n < 1000) (hN : N + 6 * n + 6 ≤ 134217728) (C0 : MR l E K cX7_livesOn RX7 6 s 4 none (fun v M2 => v = none ∧ ∃ B, M2 = mB M (run rule n M.1) B)) : ∀ (n2 : Nat) (t : Nat) (B : Nat → Int32), (n - t < n2) → (t ≤ n) → Z K (MP E (mB M (run rule t M.1) B) s) 2 [(0, .ref (madr E.2.2.1 (0, 0, 0))), (1, .int (rule)), (2, .int (nI n)), (3, .int (nI t))] [] := by
  have C := C0.c
  intro n2
  induction n2 with
  | zero => intro t B hk htl; exact absurd hk (Nat.not_lt_zero _)
  | succ n2 ih =>
    intro t B hk htl
    refine z_iload_n C 3 dX7_livesOn_2 rfl ?_
    refine z_iload_n C 2 dX7_livesOn_3 rfl ?_
    refine z_icmp_ge C 18 dX7_livesOn_4 (by decide) (fun h4 => ?_) (fun h4 => ?_)
    · skip
      refine z_vret C0 dX7_livesOn_18 ?_
      have e : t = n := by
        rcases Nat.lt_or_ge t (n) with q | q
        · exact absurd h4 (nI_ge q (by omega))
        · omega
      subst e
      exact ⟨rfl, B, rfl⟩
    · skip
      have ht2 : t < n := by
        rcases Nat.lt_or_ge t (n) with q | q
        · exact q
        · exact absurd (nI_le q (by omega)) h4
      have zR : gz (run rule t M.1) := sk_run.z hz
      have rR : rg (N + 6 * t) (run rule t M.1) := rg_run hz h (by omega)
      refine z_aload_n C 0 dX7_livesOn_7 rfl ?_
      refine z_iload_n C 1 dX7_livesOn_8 rfl ?_
      refine z_callV1 C (c_X7_lives l E (mB M (run rule t M.1) B) zR rR (by omega) rule (minutes rule t (M.1, fun _ => 0, fun _ => 0)) rfl) ⟨rfl, rfl⟩ rfl rfl q_X7_243 ⟨by decide, by decide⟩ (Nat.le_of_ble_eq_true rfl) dX7_livesOn_9 (fun v F9 hp => ?_)
      obtain ⟨rfl, B2, e9⟩ := hp
      rw [e9]
      clear e9 F9
      refine z_iinc C (v := nI (t + 1)) 3 dX7_livesOn_12 rfl (nI_1 _) (by decide) ?_
      refine z_goto C 2 dX7_livesOn_15 (by decide) ?_
      refine z_pick [1, 2, 3, 0] rfl ?_
      rw [mB_mB]
      exact ih (t + 1) B2 (by omega) (by omega)
set_option maxRecDepth 100000 in
set_option maxHeartbeats 4000000 in
theorem c_X7_livesOn (l : Launch) (E : zE) (M : zM) (hz : gz M.1) {N : Nat} (h : rg N M.1) (rule : Int32) {n : Nat} (hn : n < 1000) (hN : N + 6 * n + 6 ≤ 134217728) : MM l E yX7_livesOn cX7_livesOn 4 none 6 [.ref (madr E.2.2.1 (0, 0, 0)), .int (rule), .int (nI n)] (M) (fun v M2 => v = none ∧ ∃ B, M2 = mB M (run rule n M.1) B) := by
  refine MM.mk kq_X7 (Nat.le_of_ble_eq_true rfl) (fun K s C0 => ?_)
  have C := C0.c
  refine z_iconst C (v := 0) dX7_livesOn_0 rfl ?_
  refine z_istore_n (i := 3) C dX7_livesOn_1 rfl (by decide) ?_
  refine z_pick [1, 2, 3, 0] rfl ?_
  have q := lp_X7_livesOn M hz h rule hn hN C0 (n + 1) 0 (M.2.2.1 38) (by omega) (by omega)
  rw [show mB M (run rule 0 M.1) (M.2.2.1 38) = M from mB_id] at q
  exact q
