/-! the reference: how a text is read -/
def wrd : List Int32 := [115, 104, 111, 112, 32, 0, 99, 104, 105, 108, 100, 32, 0, 102, 101, 97, 116, 104, 101, 114, 115, 32, 0, 107, 101, 101, 112, 115, 32, 0, 105, 110, 107, 32, 0, 116, 114, 101, 101, 32, 0, 100, 111, 32, 0, 110, 105, 103, 104, 116, 0]
def nms : List Int32 := [3, 2, 2, 2, 1, 1, 2, 0]
def wofN (w : Nat) : Nat := [0, 6, 13, 23, 30, 35, 41, 45, 51].getD w 0
def fll (w : Nat) : Nat := [5, 6, 9, 6, 4, 5, 3, 5].getD w 0
theorem wr_ne : ∀ w, w < 8 → ∀ i, i < fll w → ¬ wrd.getD (wofN w + i) 0 = 0 := by decide +kernel
theorem wr_z : ∀ w, w < 8 → wrd.getD (wofN w + fll w) 0 = 0 := by decide +kernel
theorem wr_b : ∀ w, w < 8 → wofN w + fll w < 51 := by decide +kernel
theorem wr_s : ∀ w, w < 8 → wofN w + fll w + 1 = wofN (w + 1) := by decide +kernel
theorem wr_m1 : ∀ i, i < 51 → ¬ wrd.getD i 0 = -1 := by decide +kernel
theorem fll_le : ∀ w, w < 8 → fll w ≤ 9 := by decide +kernel
def cT (M : zM) (b : Nat) : Nat → Int32 := fun q => (M.2.2.2 25 (b + q)).toInt32
def rdo (M : zM) (b len : Nat) : Prop := M.2.1 30 = nI b ∧ M.2.1 32 = nI len ∧ b + len ≤ 1280 ∧ len ≤ 160 ∧ (∀ i, i < 51 → M.2.2.1 27 i = wrd.getD i 0) ∧ (∀ i, i < 8 → M.2.2.1 28 i = nms.getD i 0)
def rM (M : zM) (g : zGc) (a : Nat) (n w : Int32) (tl : Nat → Int32) : zM := (g, upd (upd (upd M.2.1 34 w) 33 n) 31 (nI a), va_up M.2.2.1 29 tl, M.2.2.2)
theorem rM_a {M : zM} {g : zGc} {a b : Nat} {n w : Int32} {tl : Nat → Int32} : mI (rM M g a n w tl) 31 (nI b) = rM M g b n w tl := by
  unfold mI rM
  simp only [upd_upd]
theorem upd_cm {f : Nat → Int32} {i j : Nat} {x y : Int32} (h : i ≠ j) : upd (upd f i x) j y = upd (upd f j y) i x := by
  funext k
  unfold upd
  by_cases h1 : k = i
  · subst h1; rw [if_neg h, if_pos rfl, if_pos rfl]
  · rw [if_neg h1, if_neg h1]
theorem rM_n {M : zM} {g : zGc} {a : Nat} {n w x : Int32} {tl : Nat → Int32} : mI (rM M g a n w tl) 33 x = rM M g a x w tl := by
  unfold mI rM
  simp only [upd_cm (show (31 : Nat) ≠ 33 by decide), upd_upd]
theorem rM_w {M : zM} {g : zGc} {a : Nat} {n w x : Int32} {tl : Nat → Int32} : mI (rM M g a n w tl) 34 x = rM M g a n x tl := by
  unfold mI rM
  simp only [upd_cm (show (31 : Nat) ≠ 34 by decide), upd_cm (show (33 : Nat) ≠ 34 by decide), upd_upd]
theorem rM_t {M : zM} {g : zGc} {a i : Nat} {n w x : Int32} {tl : Nat → Int32} : mA (rM M g a n w tl) 29 i x = rM M g a n w (upd tl i x) := by
  unfold mA rM
  simp only [va_up_self, va_up_up]
theorem rM_27 {M : zM} {g : zGc} {a : Nat} {n w : Int32} {tl : Nat → Int32} : (rM M g a n w tl).2.2.1 27 = M.2.2.1 27 := by
  show va_up M.2.2.1 29 tl 27 = _
  exact va_up_ne _ _ (by decide)
theorem rM_28 {M : zM} {g : zGc} {a : Nat} {n w : Int32} {tl : Nat → Int32} : (rM M g a n w tl).2.2.1 28 = M.2.2.1 28 := by
  show va_up M.2.2.1 29 tl 28 = _
  exact va_up_ne _ _ (by decide)
theorem rM_29 {M : zM} {g : zGc} {a : Nat} {n w : Int32} {tl : Nat → Int32} : (rM M g a n w tl).2.2.1 29 = tl := by
  show va_up M.2.2.1 29 tl 29 = _
  exact va_up_self _ _ _
theorem rM_i {M : zM} {g : zGc} {a k : Nat} {n w : Int32} {tl : Nat → Int32} (h : k ≠ 31 ∧ k ≠ 33 ∧ k ≠ 34) : (rM M g a n w tl).2.1 k = M.2.1 k := by
  show upd (upd (upd M.2.1 34 w) 33 n) 31 (nI a) k = _
  rw [pk_un h.1, pk_un h.2.1, pk_un h.2.2]
theorem rM_g {M : zM} {g g2 : zGc} {a : Nat} {n w : Int32} {tl : Nat → Int32} : mG (rM M g a n w tl) g2 = rM M g2 a n w tl := rfl
theorem nx_at {M : zM} {b len a : Nat} (h : a < len) : (M.2.2.2 25 (b + a)).toInt32 = nxP (cT M b) len a := by unfold nxP cT; rw [if_pos h]
theorem nx_no {T : Nat → Int32} {len a : Nat} (h : ¬ a < len) : nxP T len a = -1 := if_neg h
def isD (T : Nat → Int32) (len a : Nat) : Bool := decide (¬ nxP T len a < 48 ∧ ¬ 57 < nxP T len a)
theorem wd_hit {T : Nat → Int32} {len i p : Nat} {W : List Int32} {s : Nat × Option Nat} (h : wdP T len W i s = (p, none)) (hc : ¬ W.getD i 0 = -1) (h2 : nxP T len p = W.getD i 0) : wdP T len W (i + 1) s = (p + 1, none) := by
  simp only [wdP]
  rw [h]
  exact exP_hit rfl hc h2
theorem wd_fail {T : Nat → Int32} {len i p : Nat} {W : List Int32} {s : Nat × Option Nat} (h : wdP T len W i s = (p, none)) (hc : ¬ W.getD i 0 = -1) (h2 : ¬ nxP T len p = W.getD i 0) : ∀ {n : Nat}, wdP T len W (i + 1 + n) s = (p, some p)
  | 0 => by
    rw [Nat.add_zero]
    simp only [wdP]
    rw [h, exP_miss rfl hc h2]
    rfl
  | n + 1 => by
    show exP T len _ (wdP T len W (i + 1 + n) s) = _
    rw [wd_fail h hc h2 (n := n)]
    exact exP_some rfl
/-- a whole word of the reference, its blank with it -/
def fwP (T : Nat → Int32) (len w : Nat) : Nat → Nat × Option Nat → Nat × Option Nat
  | 0, s => s
  | i + 1, s => exP T len (wrd.getD (wofN w + i) 0) (fwP T len w i s)
theorem fw_hit {T : Nat → Int32} {len i p w : Nat} {s : Nat × Option Nat} (h : fwP T len w i s = (p, none)) (hc : ¬ wrd.getD (wofN w + i) 0 = -1) (h2 : nxP T len p = wrd.getD (wofN w + i) 0) : fwP T len w (i + 1) s = (p + 1, none) := by
  simp only [fwP]
  rw [h]
  exact exP_hit rfl hc h2
theorem fw_fail {T : Nat → Int32} {len i p w : Nat} {s : Nat × Option Nat} (h : fwP T len w i s = (p, none)) (hc : ¬ wrd.getD (wofN w + i) 0 = -1) (h2 : ¬ nxP T len p = wrd.getD (wofN w + i) 0) : ∀ {n : Nat}, fwP T len w (i + 1 + n) s = (p, some p)
  | 0 => by
    rw [Nat.add_zero]
    simp only [fwP]
    rw [h, exP_miss rfl hc h2]
    rfl
  | n + 1 => by
    show exP T len _ (fwP T len w (i + 1 + n) s) = _
    rw [fw_fail h hc h2 (n := n)]
    exact exP_some rfl
/-- how far the words before the w-th reach -/
def frP (T : Nat → Int32) (len a : Nat) : Nat → Nat
  | 0 => a
  | w + 1 => if frP T len a w < (fwP T len w (fll w) (a, none)).1 then (fwP T len w (fll w) (a, none)).1 else frP T len a w
theorem fw_end {T : Nat → Int32} {len w i a p : Nat} (hi : i < fll w) (h : fwP T len w i (a, none) = (p, none)) (hc : ¬ wrd.getD (wofN w + i) 0 = -1) (h2 : ¬ nxP T len p = wrd.getD (wofN w + i) 0) : fwP T len w (fll w) (a, none) = (p, some p) := by
  have e : fll w = i + 1 + (fll w - (i + 1)) := by omega
  rw [e]
  exact fw_fail h hc h2
theorem fr_le {T : Nat → Int32} {len a : Nat} (ha : a ≤ len) (hall : ∀ w, w < 8 → (fwP T len w (fll w) (a, none)).1 ≤ len) : ∀ {w : Nat}, w ≤ 8 → frP T len a w ≤ len
  | 0, _ => ha
  | w + 1, h => by
    simp only [frP]
    split
    · exact hall w (by omega)
    · exact fr_le ha hall (by omega)
theorem fw_ok {T : Nat → Int32} {len w : Nat} {s : Nat × Option Nat} (h : okS len s) (hw : w < 8) : ∀ {i : Nat}, i ≤ fll w → okS len (fwP T len w i s)
  | 0, _ => h
  | i + 1, hi => exP_ok (fw_ok h hw (by omega)) (wr_m1 _ (by have := wr_b w hw; omega))
theorem dg_nat {T : Nat → Int32} {len : Nat} : ∀ {n x a : Nat}, (x + 1) * 10 ^ n ≤ 100000 → ∃ y, y + 1 ≤ (x + 1) * 10 ^ n ∧ (dgP T len n (nI x, a)).1 = nI y
  | 0, x, a, _ => ⟨x, by omega, rfl⟩
  | n + 1, x, a, h => by
    simp only [dgP]
    split
    · rename_i hd
      have e48 : (48 : Int32).toInt = 48 := rfl
      have e57 : (57 : Int32).toInt = 57 := rfl
      generalize nxP T len a = c at hd ⊢
      obtain ⟨h1, h2⟩ := hd
      rw [i_lt, e48] at h1
      rw [i_lt, e57] at h2
      have ec : c = nI c.toInt.toNat := i_nat (by omega)
      have hx : x ≤ 100000 := by
        have : (x + 1) * 1 ≤ (x + 1) * 10 ^ (n + 1) := Nat.mul_le_mul_left _ (Nat.pos_of_ne_zero (by have := Nat.pow_pos (n := n + 1) (show 0 < 10 by decide); omega))
        omega
      have e : nI x * 10 + c - 48 = nI (x * 10 + (c.toInt.toNat - 48)) := by
        rw [ec, show (10 : Int32) = nI 10 from rfl, show nI x * nI 10 = nI (x * 10) from (Int32.ofNat_mul x 10).symm, nI_add, show (48 : Int32) = nI 48 from rfl, pk_sub (by omega), nI_toInt (by omega)]
        congr 1
        omega
      rw [e]
      obtain ⟨y, hy, e2⟩ := dg_nat (T := T) (len := len) (n := n) (x := x * 10 + (c.toInt.toNat - 48)) (a := a + 1) (by
        refine Nat.le_trans ?_ h
        rw [Nat.pow_succ, Nat.mul_comm (10 ^ n) 10, ← Nat.mul_assoc]
        exact Nat.mul_le_mul_right _ (by omega))
      refine ⟨y, Nat.le_trans hy ?_, e2⟩
      rw [Nat.pow_succ, Nat.mul_comm (10 ^ n) 10, ← Nat.mul_assoc]
      exact Nat.mul_le_mul_right _ (by omega)
    · refine ⟨x, ?_, rfl⟩
      have : (x + 1) * 1 ≤ (x + 1) * 10 ^ (n + 1) := Nat.mul_le_mul_left _ (Nat.pos_of_ne_zero (by have := Nat.pow_pos (n := n + 1) (show 0 < 10 by decide); omega))
      omega
theorem dg4 {T : Nat → Int32} {len a : Nat} : ∃ y, y ≤ 9999 ∧ (dgP T len 4 (0, a)).1 = nI y := by
  obtain ⟨y, h, e⟩ := dg_nat (T := T) (len := len) (n := 4) (x := 0) (a := a) (by decide)
  exact ⟨y, by omega, e⟩
theorem dg_in {T : Nat → Int32} {len a : Nat} (h : isD T len a = true) : ¬ (dgP T len 4 (0, a)).2 = a := by
  obtain ⟨h1, h2⟩ := of_decide_eq_true h
  have e := dgP_go (T := T) (len := len) (n := 4) (m := 3) (a := a) (num := 0) rfl h1 h2
  rw [e]
  have hl := nx_lt h1
  have := (dgP_le (T := T) (len := len) (n := 3) (d := ((0 : Int32) * 10 + nxP T len a - 48, a + 1)) (show a + 1 ≤ len by omega)).2
  intro z
  rw [z] at this
  have : a + 1 ≤ a := this
  omega
theorem dg_out {T : Nat → Int32} {len a n : Nat} {x : Int32} (h : isD T len a = false) : dgP T len n (x, a) = (x, a) := by
  refine dgP_stop ?_
  have := of_decide_eq_false h
  by_cases q : nxP T len a < 48
  · exact Or.inl q
  · exact Or.inr (Decidable.byContradiction fun z => this ⟨q, z⟩)
set_option maxRecDepth 100000 in
set_option maxHeartbeats 4000000 in
theorem c_X7_wrong (l : Launch) (E : zE) (M : zM) {b len : Nat} (hR : rdo M b len) (g : zGc) {a : Nat} (n w : Int32) (tl : Nat → Int32) (p : Int32) : MM l E yX7_wrong cX7_wrong 2 (some .boolean) 1 [.ref (madr E.2.2.1 (0, 0, 0)), .int (p)] (rM M g a n w tl) (fun v M2 => v = some (.int 0) ∧ M2 = rM M g a n p tl) := by
  refine MM.mk kq_X7 (Nat.le_of_ble_eq_true rfl) (fun K s C0 => ?_)
  have C := C0.c
  refine z_aload_n C 0 dX7_wrong_0 rfl ?_
  refine z_iload_n C 1 dX7_wrong_1 rfl ?_
  refine mp_34 C dX7_wrong_2 ?_
  rw [rM_w]
  refine z_iconst C (v := 0) dX7_wrong_5 rfl ?_
  refine z_zret C0 rfl dX7_wrong_6 ?_
  exact ⟨rfl, rfl⟩
set_option maxRecDepth 100000 in
set_option maxHeartbeats 4000000 in
theorem c_X7_isDigit (l : Launch) (E : zE) (M : zM) {b len : Nat} (hR : rdo M b len) (g : zGc) {a : Nat} (ha : a ≤ len) (n w : Int32) (tl : Nat → Int32) : MM l E yX7_isDigit cX7_isDigit 1 (some .boolean) 1 [.ref (madr E.2.2.1 (0, 0, 0))] (rM M g a n w tl) (fun v M2 => v = some (.int (bI (isD (cT M b) len a))) ∧ M2 = rM M g a n w tl) := by
  refine MM.mk kq_X7 (Nat.le_of_ble_eq_true rfl) (fun K s C0 => ?_)
  have C := C0.c
  obtain ⟨hb, he, hbl, hl, hWd, hNm⟩ := id hR
  refine z_aload_n C 0 dX7_isDigit_0 rfl ?_
  refine mg_31 C dX7_isDigit_1 ?_
  refine z_top (nI a) (rfl) ?_
  refine z_aload_n C 0 dX7_isDigit_4 rfl ?_
  refine mg_32 C dX7_isDigit_5 ?_
  rw [show (rM M g a n w tl).2.1 32 = nI len from (rM_i (by decide)).trans he]
  refine z_icmp_ge C 55 dX7_isDigit_8 (by decide) (fun h8 => ?_) (fun h8 => ?_)
  · skip
    refine z_iconst C (v := 0) dX7_isDigit_55 rfl ?_
    refine z_zret C0 rfl dX7_isDigit_56 ?_
    refine ⟨?_, rfl⟩
    have e : ¬ a < len := fun z => absurd h8 (nI_ge z (by omega))
    unfold isD
    rw [nx_no e]
    rfl
  · skip
    have ha2 : a < len := nI_lt_of h8 (by omega) (by omega)
    refine z_aload_n C 0 dX7_isDigit_11 rfl ?_
    refine mg_25 C dX7_isDigit_12 ?_
    refine z_aload_n C 0 dX7_isDigit_15 rfl ?_
    refine mg_30 C dX7_isDigit_16 ?_
    refine z_top (nI b) ((rM_i (by decide)).trans hb) ?_
    refine z_aload_n C 0 dX7_isDigit_19 rfl ?_
    refine mg_31 C dX7_isDigit_20 ?_
    refine z_top (nI a) (rfl) ?_
    refine z_iadd C dX7_isDigit_23 ?_
    refine z_top (nI (b + a)) (nI_add _ _) ?_
    refine ml_25 C (b + a) rfl (by first | assumption | omega) dX7_isDigit_24 ?_
    refine z_l2i C dX7_isDigit_25 ?_
    refine z_top (nxP (cT M b) len a) (nx_at ha2) ?_
    refine z_bipush C (v := 48) dX7_isDigit_26 rfl ?_
    refine z_icmp_lt C 55 dX7_isDigit_28 (by decide) (fun h28 => ?_) (fun h28 => ?_)
    · skip
      refine z_iconst C (v := 0) dX7_isDigit_55 rfl ?_
      refine z_zret C0 rfl dX7_isDigit_56 ?_
      refine ⟨?_, rfl⟩
      unfold isD
      rw [decide_eq_false (fun z => z.1 h28)]
      rfl
    · skip
      refine z_aload_n C 0 dX7_isDigit_31 rfl ?_
      refine mg_25 C dX7_isDigit_32 ?_
      refine z_aload_n C 0 dX7_isDigit_35 rfl ?_
      refine mg_30 C dX7_isDigit_36 ?_
      refine z_top (nI b) ((rM_i (by decide)).trans hb) ?_
      refine z_aload_n C 0 dX7_isDigit_39 rfl ?_
      refine mg_31 C dX7_isDigit_40 ?_
      refine z_top (nI a) (rfl) ?_
      refine z_iadd C dX7_isDigit_43 ?_
      refine z_top (nI (b + a)) (nI_add _ _) ?_
      refine ml_25 C (b + a) rfl (by first | assumption | omega) dX7_isDigit_44 ?_
      refine z_l2i C dX7_isDigit_45 ?_
      refine z_top (nxP (cT M b) len a) (nx_at ha2) ?_
      refine z_bipush C (v := 57) dX7_isDigit_46 rfl ?_
      refine z_icmp_gt C 55 dX7_isDigit_48 (by decide) (fun h48 => ?_) (fun h48 => ?_)
      · skip
        refine z_iconst C (v := 0) dX7_isDigit_55 rfl ?_
        refine z_zret C0 rfl dX7_isDigit_56 ?_
        refine ⟨?_, rfl⟩
        unfold isD
        rw [decide_eq_false (fun z => z.2 h48)]
        rfl
      · skip
        refine z_iconst C (v := 1) dX7_isDigit_51 rfl ?_
        refine z_goto C 56 dX7_isDigit_52 (by decide) ?_
        refine z_zret C0 rfl dX7_isDigit_56 ?_
        refine ⟨?_, rfl⟩
        unfold isD
        rw [decide_eq_true ⟨h28, h48⟩]
        rfl
set_option maxRecDepth 100000 in
set_option maxHeartbeats 4000000 in
theorem lp_X7_reads {l : Launch} {E : zE} {K : zK} {s : State} (M : zM) {b len : Nat} (hR : rdo M b len) (g : zGc) {a : Nat} (ha : a ≤ len) (n w : Int32) (tl : Nat → Int32) (hd0 : isD (cT M b) len a = true) (C0 : MR l E K cX7_reads RX7 2 s 2 (some .boolean) (fun v M2 => v = some (.int (bI (decide (¬ (dgP (cT M b) len 4 (0, a)).2 = a)))) ∧ M2 = if (dgP (cT M b) len 4 (0, a)).2 = a then rM M g a 0 (nI a) tl else rM M g (dgP (cT M b) len 4 (0, a)).2 (dgP (cT M b) len 4 (0, a)).1 w tl)) : ∀ (n2 : Nat) (k a2 : Nat) (num : Int32), (4 - k < n2) → (k ≤ 4) → (dgP (cT M b) len (4 - k) (num, a2) = (dgP (cT M b) len 4 (0, a))) → (a2 ≤ len) → Z K (MP E (rM M g a2 num w tl) s) 23 [(0, .ref (madr E.2.2.1 (0, 0, 0))), (1, .int (nI k))] [] := by
  have C := C0.c
  intro n2
  induction n2 with
  | zero => intro k a2 num hk hkl hD ha2; exact absurd hk (Nat.not_lt_zero _)
  | succ n2 ih =>
    intro k a2 num hk hkl hD ha2
    obtain ⟨hb, he, hbl, hl, hWd, hNm⟩ := id hR
    refine z_iload_n C 1 dX7_reads_23 rfl ?_
    refine z_iconst C (v := 4) dX7_reads_24 rfl ?_
    refine z_icmp_ge C 81 dX7_reads_25 (by decide) (fun h25 => ?_) (fun h25 => ?_)
    · skip
      refine z_iconst C (v := 1) dX7_reads_81 rfl ?_
      refine z_zret C0 rfl dX7_reads_82 ?_
      have eD : (dgP (cT M b) len 4 (0, a)) = (num, a2) := by
        rw [← hD]
        have e : k = 4 := by
          rcases Nat.lt_or_ge k 4 with q | q
          · exact absurd h25 (nI_ge (b := 4) q (by omega))
          · omega
        subst e; rfl
      have hne := dg_in hd0
      refine ⟨?_, ?_⟩
      · rw [decide_eq_true hne]; rfl
      · rw [if_neg hne, eD]
    · skip
      refine z_aload_n C 0 dX7_reads_28 rfl ?_
      refine z_callV0 C (c_X7_isDigit l E M hR g ha2 num w tl) ⟨rfl, rfl⟩ rfl rfl q_X7_163 ⟨by decide, by decide⟩ (Nat.le_of_ble_eq_true rfl) dX7_reads_29 (fun v F9 hp => ?_)
      obtain ⟨rfl, e9⟩ := hp
      rw [e9]
      clear e9 F9
      refine z_if_eq C 81 dX7_reads_32 (by decide) (fun h32 => ?_) (fun h32 => ?_)
      · skip
        have h32 := bI_0 h32
        refine z_iconst C (v := 1) dX7_reads_81 rfl ?_
        refine z_zret C0 rfl dX7_reads_82 ?_
        have eD : (dgP (cT M b) len 4 (0, a)) = (num, a2) := by
          rw [← hD]
          exact dg_out h32
        have hne := dg_in hd0
        refine ⟨?_, ?_⟩
        · rw [decide_eq_true hne]; rfl
        · rw [if_neg hne, eD]
      · skip
        have h32 := bI_1 h32
        have ha3 : a2 < len := nx_lt (of_decide_eq_true h32).1
        refine z_aload_n C 0 dX7_reads_35 rfl ?_
        refine z_bipush C (v := 10) dX7_reads_36 rfl ?_
        refine z_aload_n C 0 dX7_reads_38 rfl ?_
        refine mg_33 C dX7_reads_39 ?_
        refine z_top (num) (rfl) ?_
        refine z_imul C dX7_reads_42 ?_
        refine z_aload_n C 0 dX7_reads_43 rfl ?_
        refine mg_25 C dX7_reads_44 ?_
        refine z_aload_n C 0 dX7_reads_47 rfl ?_
        refine mg_30 C dX7_reads_48 ?_
        refine z_top (nI b) ((rM_i (by decide)).trans hb) ?_
        refine z_aload_n C 0 dX7_reads_51 rfl ?_
        refine mg_31 C dX7_reads_52 ?_
        refine z_top (nI a2) (rfl) ?_
        refine z_iadd C dX7_reads_55 ?_
        refine z_top (nI (b + a2)) (nI_add _ _) ?_
        refine ml_25 C (b + a2) rfl (by first | assumption | omega) dX7_reads_56 ?_
        refine z_l2i C dX7_reads_57 ?_
        refine z_top (nxP (cT M b) len a2) (nx_at ha3) ?_
        refine z_iadd C dX7_reads_58 ?_
        refine z_bipush C (v := 48) dX7_reads_59 rfl ?_
        refine z_isub C dX7_reads_61 ?_
        refine z_top (num * 10 + nxP (cT M b) len a2 - 48) (by rw [Int32.mul_comm]) ?_
        refine mp_33 C dX7_reads_62 ?_
        rw [rM_n]
        refine z_aload_n C 0 dX7_reads_65 rfl ?_
        refine z_dup C dX7_reads_66 rfl ?_
        refine mg_31 C dX7_reads_67 ?_
        refine z_top (nI a2) (rfl) ?_
        refine z_iconst C (v := 1) dX7_reads_70 rfl ?_
        refine z_iadd C dX7_reads_71 ?_
        refine z_top (nI (a2 + 1)) (nI_1 _) ?_
        refine mp_31 C dX7_reads_72 ?_
        rw [rM_a]
        refine z_iinc C (v := nI (k + 1)) 1 dX7_reads_75 rfl (nI_1 _) (by decide) ?_
        refine z_goto C 23 dX7_reads_78 (by decide) ?_
        refine z_pick [1, 0] rfl ?_
        obtain ⟨q1, q2⟩ := of_decide_eq_true h32
        have hk4 : k < 4 := by
          rcases Nat.lt_or_ge k 4 with q | q
          · exact q
          · exact absurd (nI_le (a := 4) (b := k) q (by omega)) h25
        exact ih (k + 1) (a2 + 1) _ (by omega) (by omega) ((dgP_go (n := 4 - k) (m := 4 - (k + 1)) (by omega) q1 q2).symm.trans hD) ha3
set_option maxRecDepth 100000 in
set_option maxHeartbeats 4000000 in
theorem c_X7_reads (l : Launch) (E : zE) (M : zM) {b len : Nat} (hR : rdo M b len) (g : zGc) {a : Nat} (ha : a ≤ len) (n w : Int32) (tl : Nat → Int32) : MM l E yX7_reads cX7_reads 2 (some .boolean) 2 [.ref (madr E.2.2.1 (0, 0, 0))] (rM M g a n w tl) (fun v M2 => v = some (.int (bI (decide (¬ (dgP (cT M b) len 4 (0, a)).2 = a)))) ∧ M2 = if (dgP (cT M b) len 4 (0, a)).2 = a then rM M g a 0 (nI a) tl else rM M g (dgP (cT M b) len 4 (0, a)).2 (dgP (cT M b) len 4 (0, a)).1 w tl) := by
  refine MM.mk kq_X7 (Nat.le_of_ble_eq_true rfl) (fun K s C0 => ?_)
  have C := C0.c
  obtain ⟨hb, he, hbl, hl, hWd, hNm⟩ := id hR
  refine z_aload_n C 0 dX7_reads_0 rfl ?_
  refine z_iconst C (v := 0) dX7_reads_1 rfl ?_
  refine mp_33 C dX7_reads_2 ?_
  rw [rM_n]
  refine z_aload_n C 0 dX7_reads_5 rfl ?_
  refine z_callV0 C (c_X7_isDigit l E M hR g ha 0 w tl) ⟨rfl, rfl⟩ rfl rfl q_X7_163 ⟨by decide, by decide⟩ (Nat.le_of_ble_eq_true rfl) dX7_reads_6 (fun v F9 hp => ?_)
  obtain ⟨rfl, e9⟩ := hp
  rw [e9]
  clear e9 F9
  refine z_if_ne C 21 dX7_reads_9 (by decide) (fun h9 => ?_) (fun h9 => ?_)
  · skip
    have h9 := bI_1 h9
    refine z_iconst C (v := 0) dX7_reads_21 rfl ?_
    refine z_istore_n (i := 1) C dX7_reads_22 rfl (by decide) ?_
    refine z_pick [1, 0] rfl ?_
    exact lp_X7_reads M hR g ha n w tl h9 C0 5 0 a 0 (by omega) (by omega) rfl ha
  · skip
    have h9 := bI_0 h9
    refine z_aload_n C 0 dX7_reads_12 rfl ?_
    refine z_aload_n C 0 dX7_reads_13 rfl ?_
    refine mg_31 C dX7_reads_14 ?_
    refine z_top (nI a) (rfl) ?_
    refine z_callV1 C (c_X7_wrong l E M hR g 0 w _ (nI a)) ⟨rfl, rfl⟩ rfl rfl q_X7_167 ⟨by decide, by decide⟩ (Nat.le_of_ble_eq_true rfl) dX7_reads_17 (fun v F9 hp => ?_)
    obtain ⟨rfl, e9⟩ := hp
    rw [e9]
    clear e9 F9
    refine z_zret C0 rfl dX7_reads_20 ?_
    refine ⟨?_, ?_⟩
    · rw [dg_out h9]; exact congrArg (fun b => some (Value.int (bI b))) (decide_eq_false (fun z => z rfl)).symm
    · rw [dg_out h9]; exact (if_pos rfl).symm
theorem wr0 : ∀ i, i < 4 → wrd.getD (0 + i) 0 = (zByt.getD 0 []).getD i 0 := by decide
theorem wl0 : ∀ i, i < 4 → ¬ wrd.getD (0 + i) 0 ≤ 32 := by decide
set_option maxRecDepth 100000 in
set_option maxHeartbeats 4000000 in
theorem lp_stands_0 {l : Launch} {E : zE} {K : zK} {s : State} (M : zM) {b len : Nat} (hR : rdo M b len) (g : zGc) {a : Nat} (ha : a ≤ len) (n w : Int32) (tl : Nat → Int32) (C0 : MR l E K cX7_stands RX7 1 s 4 (some .boolean) (fun v M2 => v = some (.int (bI (decide ((wdP (cT M b) len (zByt.getD 0 []) 4 (a, none)).2 = none)))) ∧ M2 = rM M g a n w tl)) : ∀ (n2 : Nat) (i : Nat), (4 - i < n2) → (i ≤ 4) → (wdP (cT M b) len (zByt.getD 0 []) i (a, none) = (a + i, none)) → (a + i ≤ len) → Z K (MP E (rM M g a n w tl) s) 37 [(0, .ref (madr E.2.2.1 (0, 0, 0))), (1, .int (nI 0)), (2, .int (nI (0 + i))), (3, .int (nI (a + i)))] [] := by
  have C := C0.c
  intro n2
  induction n2 with
  | zero => intro i hk hkl hm hq; exact absurd hk (Nat.not_lt_zero _)
  | succ n2 ih =>
    intro i hk hkl hm hq
    obtain ⟨hb, he, hbl, hl, hWd, hNm⟩ := id hR
    refine z_aload_n C 0 dX7_stands_37 rfl ?_
    refine mg_27 C dX7_stands_38 ?_
    refine z_iload_n C 2 dX7_stands_41 rfl ?_
    refine ml_27 C (0 + i) rfl (by first | assumption | omega) dX7_stands_42 ?_
    refine z_top (wrd.getD (0 + i) 0) (by rw [rM_27]; exact hWd _ (by omega)) ?_
    refine z_bipush C (v := 32) dX7_stands_43 rfl ?_
    refine z_icmp_le C 86 dX7_stands_45 (by decide) (fun h45 => ?_) (fun h45 => ?_)
    · skip
      refine z_aload_n C 0 dX7_stands_86 rfl ?_
      refine mg_27 C dX7_stands_87 ?_
      refine z_iload_n C 2 dX7_stands_90 rfl ?_
      refine ml_27 C (0 + i) rfl (by first | assumption | omega) dX7_stands_91 ?_
      refine z_top (wrd.getD (0 + i) 0) (by rw [rM_27]; exact hWd _ (by omega)) ?_
      refine z_bipush C (v := 32) dX7_stands_92 rfl ?_
      refine z_icmp_gt C 101 dX7_stands_94 (by decide) (fun h94 => ?_) (fun h94 => ?_)
      · exact absurd h94 (Int32.not_lt.mpr h45)
      · skip
        refine z_iconst C (v := 1) dX7_stands_97 rfl ?_
        refine z_goto C 102 dX7_stands_98 (by decide) ?_
        refine z_zret C0 rfl dX7_stands_102 ?_
        have e : i = 4 := by
          rcases Nat.lt_or_ge i 4 with q | q
          · exact absurd h45 (wl0 i q)
          · omega
        subst e
        refine ⟨?_, rfl⟩
        rw [hm]
        rfl
    · skip
      have hi : i < 4 := by
        rcases Nat.lt_or_ge i 4 with q | q
        · exact q
        · exact absurd (by have e : i = 4 := (by omega); subst e; decide) h45
      refine z_iload_n C 3 dX7_stands_48 rfl ?_
      refine z_aload_n C 0 dX7_stands_49 rfl ?_
      refine mg_32 C dX7_stands_50 ?_
      rw [show (rM M g a n w tl).2.1 32 = nI len from (rM_i (by decide)).trans he]
      refine z_icmp_ge C 86 dX7_stands_53 (by decide) (fun h53 => ?_) (fun h53 => ?_)
      · skip
        refine z_aload_n C 0 dX7_stands_86 rfl ?_
        refine mg_27 C dX7_stands_87 ?_
        refine z_iload_n C 2 dX7_stands_90 rfl ?_
        refine ml_27 C (0 + i) rfl (by first | assumption | omega) dX7_stands_91 ?_
        refine z_top (wrd.getD (0 + i) 0) (by rw [rM_27]; exact hWd _ (by omega)) ?_
        refine z_bipush C (v := 32) dX7_stands_92 rfl ?_
        refine z_icmp_gt C 101 dX7_stands_94 (by decide) (fun h94 => ?_) (fun h94 => ?_)
        · skip
          refine z_iconst C (v := 0) dX7_stands_101 rfl ?_
          refine z_zret C0 rfl dX7_stands_102 ?_
          have hf : wdP (cT M b) len (zByt.getD 0 []) 4 (a, none) = (a + i, some (a + i)) := by
            have e : 4 = i + 1 + (4 - (i + 1)) := by omega
            rw [e]
            exact wd_fail hm (zch_ne2 0 (by decide) i) (by rw [← wr0 i hi]; rw [nx_no (fun z => absurd h53 (nI_ge z (by omega)))]; exact fun z => wr_m1 _ (by omega) z.symm)
          refine ⟨?_, rfl⟩
          rw [hf]
          rfl
        · exact absurd h94 (fun z => z (Int32.not_le.mp h45))
      · skip
        have ha2 : a + i < len := nI_lt_of h53 (by omega) (by omega)
        refine z_aload_n C 0 dX7_stands_56 rfl ?_
        refine mg_25 C dX7_stands_57 ?_
        refine z_aload_n C 0 dX7_stands_60 rfl ?_
        refine mg_30 C dX7_stands_61 ?_
        refine z_top (nI b) ((rM_i (by decide)).trans hb) ?_
        refine z_iload_n C 3 dX7_stands_64 rfl ?_
        refine z_iadd C dX7_stands_65 ?_
        refine z_top (nI (b + (a + i))) (nI_add _ _) ?_
        refine ml_25 C (b + (a + i)) rfl (by first | assumption | omega) dX7_stands_66 ?_
        refine z_l2i C dX7_stands_67 ?_
        refine z_top (nxP (cT M b) len (a + i)) (nx_at ha2) ?_
        refine z_aload_n C 0 dX7_stands_68 rfl ?_
        refine mg_27 C dX7_stands_69 ?_
        refine z_iload_n C 2 dX7_stands_72 rfl ?_
        refine ml_27 C (0 + i) rfl (by first | assumption | omega) dX7_stands_73 ?_
        refine z_top (wrd.getD (0 + i) 0) (by rw [rM_27]; exact hWd _ (by omega)) ?_
        refine z_icmp_ne C 86 dX7_stands_74 (by decide) (fun h74 => ?_) (fun h74 => ?_)
        · skip
          refine z_aload_n C 0 dX7_stands_86 rfl ?_
          refine mg_27 C dX7_stands_87 ?_
          refine z_iload_n C 2 dX7_stands_90 rfl ?_
          refine ml_27 C (0 + i) rfl (by first | assumption | omega) dX7_stands_91 ?_
          refine z_top (wrd.getD (0 + i) 0) (by rw [rM_27]; exact hWd _ (by omega)) ?_
          refine z_bipush C (v := 32) dX7_stands_92 rfl ?_
          refine z_icmp_gt C 101 dX7_stands_94 (by decide) (fun h94 => ?_) (fun h94 => ?_)
          · skip
            refine z_iconst C (v := 0) dX7_stands_101 rfl ?_
            refine z_zret C0 rfl dX7_stands_102 ?_
            have hf : wdP (cT M b) len (zByt.getD 0 []) 4 (a, none) = (a + i, some (a + i)) := by
              have e : 4 = i + 1 + (4 - (i + 1)) := by omega
              rw [e]
              exact wd_fail hm (zch_ne2 0 (by decide) i) (by rw [← wr0 i hi]; exact h74)
            refine ⟨?_, rfl⟩
            rw [hf]
            rfl
          · exact absurd h94 (fun z => z (Int32.not_le.mp h45))
        · skip
          refine z_iinc C (v := nI ((a + i) + 1)) 3 dX7_stands_77 rfl (nI_1 _) (by decide) ?_
          refine z_iinc C (v := nI ((0 + i) + 1)) 3 dX7_stands_80 rfl (nI_1 _) (by decide) ?_
          refine z_goto C 37 dX7_stands_83 (by decide) ?_
          refine z_pick [2, 3, 0, 1] rfl ?_
          exact ih (i + 1) (by omega) (by omega) (wd_hit hm (zch_ne2 0 (by decide) i) (h74.trans (wr0 i hi))) ha2
set_option maxRecDepth 100000 in
set_option maxHeartbeats 4000000 in
theorem c_stands_0 (l : Launch) (E : zE) (M : zM) {b len : Nat} (hR : rdo M b len) (g : zGc) {a : Nat} (ha : a ≤ len) (n w : Int32) (tl : Nat → Int32) : MM l E yX7_stands cX7_stands 4 (some .boolean) 1 [.ref (madr E.2.2.1 (0, 0, 0)), .int (0)] (rM M g a n w tl) (fun v M2 => v = some (.int (bI (decide ((wdP (cT M b) len (zByt.getD 0 []) 4 (a, none)).2 = none)))) ∧ M2 = rM M g a n w tl) := by
  refine MM.mk kq_X7 (Nat.le_of_ble_eq_true rfl) (fun K s C0 => ?_)
  have C := C0.c
  obtain ⟨hb, he, hbl, hl, hWd, hNm⟩ := id hR
  refine z_iconst C (v := 0) dX7_stands_0 rfl ?_
  refine z_istore_n (i := 2) C dX7_stands_1 rfl (by decide) ?_
  refine z_iconst C (v := 0) dX7_stands_2 rfl ?_
  refine z_istore_n (i := 3) C dX7_stands_3 rfl (by decide) ?_
  refine z_pick (L2 := [(3, .int (0)), (2, .int (0)), (0, .ref (madr E.2.2.1 (0, 0, 0))), (1, .int (0))]) [0, 1, 2, 3] rfl ?_
  refine z_iload_n C 0 dX7_stands_4 rfl ?_
  refine z_iload_n C 3 dX7_stands_5 rfl ?_
  refine z_icmp_ge C 32 dX7_stands_6 (by decide) (fun h6 => ?_) (fun h6 => ?_)
  · skip
    refine z_aload_n C 2 dX7_stands_32 rfl ?_
    refine mg_31 C dX7_stands_33 ?_
    refine z_top (nI a) (rfl) ?_
    refine z_istore_n (i := 3) C dX7_stands_36 rfl (by decide) ?_
    refine z_pick [2, 3, 1, 0] rfl ?_
    exact lp_stands_0 M hR g ha n w tl C0 5 0 (by omega) (by omega) rfl ha
  · exact absurd h6 (by decide)
theorem wr1 : ∀ i, i < 5 → wrd.getD (6 + i) 0 = (zByt.getD 1 []).getD i 0 := by decide
theorem wl1 : ∀ i, i < 5 → ¬ wrd.getD (6 + i) 0 ≤ 32 := by decide
set_option maxRecDepth 100000 in
set_option maxHeartbeats 4000000 in
theorem lp_stands_1 {l : Launch} {E : zE} {K : zK} {s : State} (M : zM) {b len : Nat} (hR : rdo M b len) (g : zGc) {a : Nat} (ha : a ≤ len) (n w : Int32) (tl : Nat → Int32) (C0 : MR l E K cX7_stands RX7 1 s 4 (some .boolean) (fun v M2 => v = some (.int (bI (decide ((wdP (cT M b) len (zByt.getD 1 []) 5 (a, none)).2 = none)))) ∧ M2 = rM M g a n w tl)) : ∀ (n2 : Nat) (i : Nat), (5 - i < n2) → (i ≤ 5) → (wdP (cT M b) len (zByt.getD 1 []) i (a, none) = (a + i, none)) → (a + i ≤ len) → Z K (MP E (rM M g a n w tl) s) 37 [(0, .ref (madr E.2.2.1 (0, 0, 0))), (1, .int (nI 1)), (2, .int (nI (6 + i))), (3, .int (nI (a + i)))] [] := by
  have C := C0.c
  intro n2
  induction n2 with
  | zero => intro i hk hkl hm hq; exact absurd hk (Nat.not_lt_zero _)
  | succ n2 ih =>
    intro i hk hkl hm hq
    obtain ⟨hb, he, hbl, hl, hWd, hNm⟩ := id hR
    refine z_aload_n C 0 dX7_stands_37 rfl ?_
    refine mg_27 C dX7_stands_38 ?_
    refine z_iload_n C 2 dX7_stands_41 rfl ?_
    refine ml_27 C (6 + i) rfl (by first | assumption | omega) dX7_stands_42 ?_
    refine z_top (wrd.getD (6 + i) 0) (by rw [rM_27]; exact hWd _ (by omega)) ?_
    refine z_bipush C (v := 32) dX7_stands_43 rfl ?_
    refine z_icmp_le C 86 dX7_stands_45 (by decide) (fun h45 => ?_) (fun h45 => ?_)
    · skip
      refine z_aload_n C 0 dX7_stands_86 rfl ?_
      refine mg_27 C dX7_stands_87 ?_
      refine z_iload_n C 2 dX7_stands_90 rfl ?_
      refine ml_27 C (6 + i) rfl (by first | assumption | omega) dX7_stands_91 ?_
      refine z_top (wrd.getD (6 + i) 0) (by rw [rM_27]; exact hWd _ (by omega)) ?_
      refine z_bipush C (v := 32) dX7_stands_92 rfl ?_
      refine z_icmp_gt C 101 dX7_stands_94 (by decide) (fun h94 => ?_) (fun h94 => ?_)
      · exact absurd h94 (Int32.not_lt.mpr h45)
      · skip
        refine z_iconst C (v := 1) dX7_stands_97 rfl ?_
        refine z_goto C 102 dX7_stands_98 (by decide) ?_
        refine z_zret C0 rfl dX7_stands_102 ?_
        have e : i = 5 := by
          rcases Nat.lt_or_ge i 5 with q | q
          · exact absurd h45 (wl1 i q)
          · omega
        subst e
        refine ⟨?_, rfl⟩
        rw [hm]
        rfl
    · skip
      have hi : i < 5 := by
        rcases Nat.lt_or_ge i 5 with q | q
        · exact q
        · exact absurd (by have e : i = 5 := (by omega); subst e; decide) h45
      refine z_iload_n C 3 dX7_stands_48 rfl ?_
      refine z_aload_n C 0 dX7_stands_49 rfl ?_
      refine mg_32 C dX7_stands_50 ?_
      rw [show (rM M g a n w tl).2.1 32 = nI len from (rM_i (by decide)).trans he]
      refine z_icmp_ge C 86 dX7_stands_53 (by decide) (fun h53 => ?_) (fun h53 => ?_)
      · skip
        refine z_aload_n C 0 dX7_stands_86 rfl ?_
        refine mg_27 C dX7_stands_87 ?_
        refine z_iload_n C 2 dX7_stands_90 rfl ?_
        refine ml_27 C (6 + i) rfl (by first | assumption | omega) dX7_stands_91 ?_
        refine z_top (wrd.getD (6 + i) 0) (by rw [rM_27]; exact hWd _ (by omega)) ?_
        refine z_bipush C (v := 32) dX7_stands_92 rfl ?_
        refine z_icmp_gt C 101 dX7_stands_94 (by decide) (fun h94 => ?_) (fun h94 => ?_)
        · skip
          refine z_iconst C (v := 0) dX7_stands_101 rfl ?_
          refine z_zret C0 rfl dX7_stands_102 ?_
          have hf : wdP (cT M b) len (zByt.getD 1 []) 5 (a, none) = (a + i, some (a + i)) := by
            have e : 5 = i + 1 + (5 - (i + 1)) := by omega
            rw [e]
            exact wd_fail hm (zch_ne2 1 (by decide) i) (by rw [← wr1 i hi]; rw [nx_no (fun z => absurd h53 (nI_ge z (by omega)))]; exact fun z => wr_m1 _ (by omega) z.symm)
          refine ⟨?_, rfl⟩
          rw [hf]
          rfl
        · exact absurd h94 (fun z => z (Int32.not_le.mp h45))
      · skip
        have ha2 : a + i < len := nI_lt_of h53 (by omega) (by omega)
        refine z_aload_n C 0 dX7_stands_56 rfl ?_
        refine mg_25 C dX7_stands_57 ?_
        refine z_aload_n C 0 dX7_stands_60 rfl ?_
        refine mg_30 C dX7_stands_61 ?_
        refine z_top (nI b) ((rM_i (by decide)).trans hb) ?_
        refine z_iload_n C 3 dX7_stands_64 rfl ?_
        refine z_iadd C dX7_stands_65 ?_
        refine z_top (nI (b + (a + i))) (nI_add _ _) ?_
        refine ml_25 C (b + (a + i)) rfl (by first | assumption | omega) dX7_stands_66 ?_
        refine z_l2i C dX7_stands_67 ?_
        refine z_top (nxP (cT M b) len (a + i)) (nx_at ha2) ?_
        refine z_aload_n C 0 dX7_stands_68 rfl ?_
        refine mg_27 C dX7_stands_69 ?_
        refine z_iload_n C 2 dX7_stands_72 rfl ?_
        refine ml_27 C (6 + i) rfl (by first | assumption | omega) dX7_stands_73 ?_
        refine z_top (wrd.getD (6 + i) 0) (by rw [rM_27]; exact hWd _ (by omega)) ?_
        refine z_icmp_ne C 86 dX7_stands_74 (by decide) (fun h74 => ?_) (fun h74 => ?_)
        · skip
          refine z_aload_n C 0 dX7_stands_86 rfl ?_
          refine mg_27 C dX7_stands_87 ?_
          refine z_iload_n C 2 dX7_stands_90 rfl ?_
          refine ml_27 C (6 + i) rfl (by first | assumption | omega) dX7_stands_91 ?_
          refine z_top (wrd.getD (6 + i) 0) (by rw [rM_27]; exact hWd _ (by omega)) ?_
          refine z_bipush C (v := 32) dX7_stands_92 rfl ?_
          refine z_icmp_gt C 101 dX7_stands_94 (by decide) (fun h94 => ?_) (fun h94 => ?_)
          · skip
            refine z_iconst C (v := 0) dX7_stands_101 rfl ?_
            refine z_zret C0 rfl dX7_stands_102 ?_
            have hf : wdP (cT M b) len (zByt.getD 1 []) 5 (a, none) = (a + i, some (a + i)) := by
              have e : 5 = i + 1 + (5 - (i + 1)) := by omega
              rw [e]
              exact wd_fail hm (zch_ne2 1 (by decide) i) (by rw [← wr1 i hi]; exact h74)
            refine ⟨?_, rfl⟩
            rw [hf]
            rfl
          · exact absurd h94 (fun z => z (Int32.not_le.mp h45))
        · skip
          refine z_iinc C (v := nI ((a + i) + 1)) 3 dX7_stands_77 rfl (nI_1 _) (by decide) ?_
          refine z_iinc C (v := nI ((6 + i) + 1)) 3 dX7_stands_80 rfl (nI_1 _) (by decide) ?_
          refine z_goto C 37 dX7_stands_83 (by decide) ?_
          refine z_pick [2, 3, 0, 1] rfl ?_
          exact ih (i + 1) (by omega) (by omega) (wd_hit hm (zch_ne2 1 (by decide) i) (h74.trans (wr1 i hi))) ha2
set_option maxRecDepth 100000 in
set_option maxHeartbeats 4000000 in
theorem c_stands_1 (l : Launch) (E : zE) (M : zM) {b len : Nat} (hR : rdo M b len) (g : zGc) {a : Nat} (ha : a ≤ len) (n w : Int32) (tl : Nat → Int32) : MM l E yX7_stands cX7_stands 4 (some .boolean) 1 [.ref (madr E.2.2.1 (0, 0, 0)), .int (1)] (rM M g a n w tl) (fun v M2 => v = some (.int (bI (decide ((wdP (cT M b) len (zByt.getD 1 []) 5 (a, none)).2 = none)))) ∧ M2 = rM M g a n w tl) := by
  refine MM.mk kq_X7 (Nat.le_of_ble_eq_true rfl) (fun K s C0 => ?_)
  have C := C0.c
  obtain ⟨hb, he, hbl, hl, hWd, hNm⟩ := id hR
  refine z_iconst C (v := 0) dX7_stands_0 rfl ?_
  refine z_istore_n (i := 2) C dX7_stands_1 rfl (by decide) ?_
  refine z_iconst C (v := 0) dX7_stands_2 rfl ?_
  refine z_istore_n (i := 3) C dX7_stands_3 rfl (by decide) ?_
  refine z_pick (L2 := [(3, .int (0)), (2, .int (0)), (0, .ref (madr E.2.2.1 (0, 0, 0))), (1, .int (1))]) [0, 1, 2, 3] rfl ?_
  refine z_iload_n C 0 dX7_stands_4 rfl ?_
  refine z_iload_n C 3 dX7_stands_5 rfl ?_
  refine z_icmp_ge C 32 dX7_stands_6 (by decide) (fun h6 => ?_) (fun h6 => ?_)
  · exact absurd h6 (by decide)
  · skip
    refine z_iload_n C 0 dX7_stands_9 rfl ?_
    refine z_aload_n C 2 dX7_stands_10 rfl ?_
    refine mg_27 C dX7_stands_11 ?_
    refine z_iload_n C 1 dX7_stands_14 rfl ?_
    refine ml_27 C 0 rfl (by decide) dX7_stands_15 ?_
    refine z_top (115) (by rw [rM_27]; exact hWd 0 (by decide)) ?_
    refine z_if_ne C 23 dX7_stands_16 (by decide) (fun h16 => ?_) (fun h16 => ?_)
    · skip
      refine z_iconst C (v := 0) dX7_stands_23 rfl ?_
      refine z_iadd C dX7_stands_24 ?_
      refine z_top (0) (rfl) ?_
      refine z_istore_n (i := 3) C dX7_stands_25 rfl (by decide) ?_
      refine z_iinc C (v := nI 1) 1 dX7_stands_26 rfl rfl (by decide) ?_
      refine z_goto C 4 dX7_stands_29 (by decide) ?_
      refine z_pick (L2 := [(2, .int (1)), (3, .int (0)), (0, .ref (madr E.2.2.1 (0, 0, 0))), (1, .int (1))]) [0, 1, 2, 3] rfl ?_
      refine z_iload_n C 1 dX7_stands_4 rfl ?_
      refine z_iload_n C 3 dX7_stands_5 rfl ?_
      refine z_icmp_ge C 32 dX7_stands_6 (by decide) (fun h6 => ?_) (fun h6 => ?_)
      · exact absurd h6 (by decide)
      · skip
        refine z_iload_n C 1 dX7_stands_9 rfl ?_
        refine z_aload_n C 2 dX7_stands_10 rfl ?_
        refine mg_27 C dX7_stands_11 ?_
        refine z_iload_n C 0 dX7_stands_14 rfl ?_
        refine ml_27 C 1 rfl (by decide) dX7_stands_15 ?_
        refine z_top (104) (by rw [rM_27]; exact hWd 1 (by decide)) ?_
        refine z_if_ne C 23 dX7_stands_16 (by decide) (fun h16 => ?_) (fun h16 => ?_)
        · skip
          refine z_iconst C (v := 0) dX7_stands_23 rfl ?_
          refine z_iadd C dX7_stands_24 ?_
          refine z_top (0) (rfl) ?_
          refine z_istore_n (i := 3) C dX7_stands_25 rfl (by decide) ?_
          refine z_iinc C (v := nI 2) 1 dX7_stands_26 rfl rfl (by decide) ?_
          refine z_goto C 4 dX7_stands_29 (by decide) ?_
          refine z_pick (L2 := [(2, .int (2)), (3, .int (0)), (0, .ref (madr E.2.2.1 (0, 0, 0))), (1, .int (1))]) [0, 1, 2, 3] rfl ?_
          refine z_iload_n C 1 dX7_stands_4 rfl ?_
          refine z_iload_n C 3 dX7_stands_5 rfl ?_
          refine z_icmp_ge C 32 dX7_stands_6 (by decide) (fun h6 => ?_) (fun h6 => ?_)
          · exact absurd h6 (by decide)
          · skip
            refine z_iload_n C 1 dX7_stands_9 rfl ?_
            refine z_aload_n C 2 dX7_stands_10 rfl ?_
            refine mg_27 C dX7_stands_11 ?_
            refine z_iload_n C 0 dX7_stands_14 rfl ?_
            refine ml_27 C 2 rfl (by decide) dX7_stands_15 ?_
            refine z_top (111) (by rw [rM_27]; exact hWd 2 (by decide)) ?_
            refine z_if_ne C 23 dX7_stands_16 (by decide) (fun h16 => ?_) (fun h16 => ?_)
            · skip
              refine z_iconst C (v := 0) dX7_stands_23 rfl ?_
              refine z_iadd C dX7_stands_24 ?_
              refine z_top (0) (rfl) ?_
              refine z_istore_n (i := 3) C dX7_stands_25 rfl (by decide) ?_
              refine z_iinc C (v := nI 3) 1 dX7_stands_26 rfl rfl (by decide) ?_
              refine z_goto C 4 dX7_stands_29 (by decide) ?_
              refine z_pick (L2 := [(2, .int (3)), (3, .int (0)), (0, .ref (madr E.2.2.1 (0, 0, 0))), (1, .int (1))]) [0, 1, 2, 3] rfl ?_
              refine z_iload_n C 1 dX7_stands_4 rfl ?_
              refine z_iload_n C 3 dX7_stands_5 rfl ?_
              refine z_icmp_ge C 32 dX7_stands_6 (by decide) (fun h6 => ?_) (fun h6 => ?_)
              · exact absurd h6 (by decide)
              · skip
                refine z_iload_n C 1 dX7_stands_9 rfl ?_
                refine z_aload_n C 2 dX7_stands_10 rfl ?_
                refine mg_27 C dX7_stands_11 ?_
                refine z_iload_n C 0 dX7_stands_14 rfl ?_
                refine ml_27 C 3 rfl (by decide) dX7_stands_15 ?_
                refine z_top (112) (by rw [rM_27]; exact hWd 3 (by decide)) ?_
                refine z_if_ne C 23 dX7_stands_16 (by decide) (fun h16 => ?_) (fun h16 => ?_)
                · skip
                  refine z_iconst C (v := 0) dX7_stands_23 rfl ?_
                  refine z_iadd C dX7_stands_24 ?_
                  refine z_top (0) (rfl) ?_
                  refine z_istore_n (i := 3) C dX7_stands_25 rfl (by decide) ?_
                  refine z_iinc C (v := nI 4) 1 dX7_stands_26 rfl rfl (by decide) ?_
                  refine z_goto C 4 dX7_stands_29 (by decide) ?_
                  refine z_pick (L2 := [(2, .int (4)), (3, .int (0)), (0, .ref (madr E.2.2.1 (0, 0, 0))), (1, .int (1))]) [0, 1, 2, 3] rfl ?_
                  refine z_iload_n C 1 dX7_stands_4 rfl ?_
                  refine z_iload_n C 3 dX7_stands_5 rfl ?_
                  refine z_icmp_ge C 32 dX7_stands_6 (by decide) (fun h6 => ?_) (fun h6 => ?_)
                  · exact absurd h6 (by decide)
                  · skip
                    refine z_iload_n C 1 dX7_stands_9 rfl ?_
                    refine z_aload_n C 2 dX7_stands_10 rfl ?_
                    refine mg_27 C dX7_stands_11 ?_
                    refine z_iload_n C 0 dX7_stands_14 rfl ?_
                    refine ml_27 C 4 rfl (by decide) dX7_stands_15 ?_
                    refine z_top (32) (by rw [rM_27]; exact hWd 4 (by decide)) ?_
                    refine z_if_ne C 23 dX7_stands_16 (by decide) (fun h16 => ?_) (fun h16 => ?_)
                    · skip
                      refine z_iconst C (v := 0) dX7_stands_23 rfl ?_
                      refine z_iadd C dX7_stands_24 ?_
                      refine z_top (0) (rfl) ?_
                      refine z_istore_n (i := 3) C dX7_stands_25 rfl (by decide) ?_
                      refine z_iinc C (v := nI 5) 1 dX7_stands_26 rfl rfl (by decide) ?_
                      refine z_goto C 4 dX7_stands_29 (by decide) ?_
                      refine z_pick (L2 := [(2, .int (5)), (3, .int (0)), (0, .ref (madr E.2.2.1 (0, 0, 0))), (1, .int (1))]) [0, 1, 2, 3] rfl ?_
                      refine z_iload_n C 1 dX7_stands_4 rfl ?_
                      refine z_iload_n C 3 dX7_stands_5 rfl ?_
                      refine z_icmp_ge C 32 dX7_stands_6 (by decide) (fun h6 => ?_) (fun h6 => ?_)
                      · exact absurd h6 (by decide)
                      · skip
                        refine z_iload_n C 1 dX7_stands_9 rfl ?_
                        refine z_aload_n C 2 dX7_stands_10 rfl ?_
                        refine mg_27 C dX7_stands_11 ?_
                        refine z_iload_n C 0 dX7_stands_14 rfl ?_
                        refine ml_27 C 5 rfl (by decide) dX7_stands_15 ?_
                        refine z_top (0) (by rw [rM_27]; exact hWd 5 (by decide)) ?_
                        refine z_if_ne C 23 dX7_stands_16 (by decide) (fun h16 => ?_) (fun h16 => ?_)
                        · exact absurd h16 (by decide)
                        · skip
                          refine z_iconst C (v := 1) dX7_stands_19 rfl ?_
                          refine z_goto C 24 dX7_stands_20 (by decide) ?_
                          refine z_iadd C dX7_stands_24 ?_
                          refine z_top (1) (rfl) ?_
                          refine z_istore_n (i := 3) C dX7_stands_25 rfl (by decide) ?_
                          refine z_iinc C (v := nI 6) 1 dX7_stands_26 rfl rfl (by decide) ?_
                          refine z_goto C 4 dX7_stands_29 (by decide) ?_
                          refine z_pick (L2 := [(2, .int (6)), (3, .int (1)), (0, .ref (madr E.2.2.1 (0, 0, 0))), (1, .int (1))]) [0, 1, 2, 3] rfl ?_
                          refine z_iload_n C 1 dX7_stands_4 rfl ?_
                          refine z_iload_n C 3 dX7_stands_5 rfl ?_
                          refine z_icmp_ge C 32 dX7_stands_6 (by decide) (fun h6 => ?_) (fun h6 => ?_)
                          · skip
                            refine z_aload_n C 2 dX7_stands_32 rfl ?_
                            refine mg_31 C dX7_stands_33 ?_
                            refine z_top (nI a) (rfl) ?_
                            refine z_istore_n (i := 3) C dX7_stands_36 rfl (by decide) ?_
                            refine z_pick [2, 3, 1, 0] rfl ?_
                            exact lp_stands_1 M hR g ha n w tl C0 6 0 (by omega) (by omega) rfl ha
                          · exact absurd h6 (by decide)
                    · exact absurd h16 (by decide)
                · exact absurd h16 (by decide)
            · exact absurd h16 (by decide)
        · exact absurd h16 (by decide)
    · exact absurd h16 (by decide)
set_option maxRecDepth 100000 in
set_option maxHeartbeats 4000000 in
theorem lp_word_106 {l : Launch} {E : zE} {K : zK} {s : State} (M : zM) {b len : Nat} (hR : rdo M b len) (g : zGc) {a : Nat} (ha : a ≤ len) (n w : Int32) (tl : Nat → Int32) {wi : Nat} (hw8 : wi < 8) (ih9 : Z K (MP E (rM M g a n w tl) s) 9 [(0, .ref (madr E.2.2.1 (0, 0, 0))), (1, .int (nI (wofN (wi + 1)))), (2, .int (nI (frP (cT M b) len a (wi + 1)))), (3, .int (nI (wi + 1)))] []) (C0 : MR l E K cX7_word RX7 1 s 6 (some .int) (fun v M2 => (∃ wi, wi < 8 ∧ v = some (.int (nI wi)) ∧ fwP (cT M b) len wi (fll wi) (a, none) = (a + fll wi, none) ∧ a + fll wi ≤ len ∧ M2 = rM M g (a + fll wi) n w tl) ∨ (v = some (.int (-1)) ∧ M2 = rM M g a n (nI (frP (cT M b) len a 8)) tl ∧ ∀ wi, wi < 8 → ¬ (fwP (cT M b) len wi (fll wi) (a, none)).2 = none))) : ∀ (n2 : Nat) (j : Nat), (fll wi - j < n2) → (j ≤ fll wi) → Z K (MP E (rM M g a n w tl) s) 106 [(0, .ref (madr E.2.2.1 (0, 0, 0))), (1, .int (nI (wofN wi + j))), (2, .int (nI (frP (cT M b) len a (wi + 1)))), (3, .int (nI wi))] [] := by
  have C := C0.c
  intro n2
  induction n2 with
  | zero => intro j hk hkl; exact absurd hk (Nat.not_lt_zero _)
  | succ n2 ih =>
    intro j hk hkl
    obtain ⟨hb, he, hbl, hl, hWd, hNm⟩ := id hR
    have hwb := wr_b wi hw8
    have hw9 := fll_le wi hw8
    refine z_aload_n C 0 dX7_word_106 rfl ?_
    refine mg_27 C dX7_word_107 ?_
    refine z_iload_n C 1 dX7_word_110 rfl ?_
    refine ml_27 C (wofN wi + j) rfl (by first | assumption | omega) dX7_word_111 ?_
    refine z_top (wrd.getD (wofN wi + j) 0) (by rw [rM_27]; exact hWd _ (by omega)) ?_
    refine z_if_eq C 121 dX7_word_112 (by decide) (fun h112 => ?_) (fun h112 => ?_)
    · skip
      have e : j = fll wi := by
        rcases Nat.lt_or_ge j (fll wi) with q | q
        · exact absurd h112 (wr_ne wi hw8 j q)
        · omega
      subst e
      refine z_iinc C (v := nI (wofN (wi + 1))) 1 dX7_word_121 rfl (by rw [← wr_s wi hw8]; exact nI_1 _) (by decide) ?_
      refine z_iinc C (v := nI (wi + 1)) 3 dX7_word_124 rfl (nI_1 _) (by decide) ?_
      refine z_goto C 9 dX7_word_127 (by decide) ?_
      refine z_pick [2, 1, 3, 0] rfl ?_
      exact ih9
    · skip
      have hj : j < fll wi := by
        rcases Nat.lt_or_ge j (fll wi) with q | q
        · exact q
        · exact absurd (by have e : j = fll wi := (by omega); rw [e]; exact wr_z wi hw8) h112
      refine z_iinc C (v := nI ((wofN wi + j) + 1)) 1 dX7_word_115 rfl (nI_1 _) (by decide) ?_
      refine z_goto C 106 dX7_word_118 (by decide) ?_
      refine z_pick [1, 0, 2, 3] rfl ?_
      exact ih (j + 1) (by omega) (by omega)
set_option maxRecDepth 100000 in
set_option maxHeartbeats 4000000 in
theorem lp_word_24 {l : Launch} {E : zE} {K : zK} {s : State} (M : zM) {b len : Nat} (hR : rdo M b len) (g : zGc) {a : Nat} (ha : a ≤ len) (n w : Int32) (tl : Nat → Int32) {wi : Nat} (hw8 : wi < 8) (hall : ∀ q, q < wi → ¬ (fwP (cT M b) len q (fll q) (a, none)).2 = none) (ih9 : (∀ q, q < wi + 1 → ¬ (fwP (cT M b) len q (fll q) (a, none)).2 = none) → Z K (MP E (rM M g a n w tl) s) 9 [(0, .ref (madr E.2.2.1 (0, 0, 0))), (1, .int (nI (wofN (wi + 1)))), (2, .int (nI (frP (cT M b) len a (wi + 1)))), (3, .int (nI (wi + 1)))] []) (C0 : MR l E K cX7_word RX7 1 s 6 (some .int) (fun v M2 => (∃ wi, wi < 8 ∧ v = some (.int (nI wi)) ∧ fwP (cT M b) len wi (fll wi) (a, none) = (a + fll wi, none) ∧ a + fll wi ≤ len ∧ M2 = rM M g (a + fll wi) n w tl) ∨ (v = some (.int (-1)) ∧ M2 = rM M g a n (nI (frP (cT M b) len a 8)) tl ∧ ∀ wi, wi < 8 → ¬ (fwP (cT M b) len wi (fll wi) (a, none)).2 = none))) : ∀ (n2 : Nat) (i : Nat), (fll wi - i < n2) → (i ≤ fll wi) → (fwP (cT M b) len wi i (a, none) = (a + i, none)) → (a + i ≤ len) → Z K (MP E (rM M g a n w tl) s) 24 [(0, .ref (madr E.2.2.1 (0, 0, 0))), (1, .int (nI (wofN wi))), (2, .int (nI (frP (cT M b) len a wi))), (3, .int (nI wi)), (4, .int (nI (a + i))), (5, .int (nI (wofN wi + i)))] [] := by
  have C := C0.c
  intro n2
  induction n2 with
  | zero => intro i hk hkl hm hq; exact absurd hk (Nat.not_lt_zero _)
  | succ n2 ih =>
    intro i hk hkl hm hq
    obtain ⟨hb, he, hbl, hl, hWd, hNm⟩ := id hR
    have hwb := wr_b wi hw8
    have hw9 := fll_le wi hw8
    refine z_aload_n C 0 dX7_word_24 rfl ?_
    refine mg_27 C dX7_word_25 ?_
    refine z_iload C 5 dX7_word_28 rfl ?_
    refine ml_27 C (wofN wi + i) rfl (by first | assumption | omega) dX7_word_30 ?_
    refine z_top (wrd.getD (wofN wi + i) 0) (by rw [rM_27]; exact hWd _ (by omega)) ?_
    refine z_if_eq C 75 dX7_word_31 (by decide) (fun h31 => ?_) (fun h31 => ?_)
    · skip
      refine z_aload_n C 0 dX7_word_75 rfl ?_
      refine mg_27 C dX7_word_76 ?_
      refine z_iload C 5 dX7_word_79 rfl ?_
      refine ml_27 C (wofN wi + i) rfl (by first | assumption | omega) dX7_word_81 ?_
      refine z_top (wrd.getD (wofN wi + i) 0) (by rw [rM_27]; exact hWd _ (by omega)) ?_
      refine z_if_ne C 93 dX7_word_82 (by decide) (fun h82 => ?_) (fun h82 => ?_)
      · exact absurd h31 h82
      · skip
        have e : i = fll wi := by
          rcases Nat.lt_or_ge i (fll wi) with q | q
          · exact absurd h31 (wr_ne wi hw8 i q)
          · omega
        refine z_aload_n C 0 dX7_word_85 rfl ?_
        refine z_iload C 4 dX7_word_86 rfl ?_
        refine mp_31 C dX7_word_88 ?_
        rw [rM_a]
        refine z_iload_n C 3 dX7_word_91 rfl ?_
        refine z_iret C0 dX7_word_92 ?_
        exact Or.inl ⟨wi, hw8, rfl, by subst e; exact hm, by omega, by subst e; rfl⟩
    · skip
      have hi : i < fll wi := by
        rcases Nat.lt_or_ge i (fll wi) with q | q
        · exact q
        · exact absurd (by have e : i = fll wi := (by omega); rw [e]; exact wr_z wi hw8) h31
      refine z_iload C 4 dX7_word_34 rfl ?_
      refine z_aload_n C 0 dX7_word_36 rfl ?_
      refine mg_32 C dX7_word_37 ?_
      rw [show (rM M g a n w tl).2.1 32 = nI len from (rM_i (by decide)).trans he]
      refine z_icmp_ge C 75 dX7_word_40 (by decide) (fun h40 => ?_) (fun h40 => ?_)
      · skip
        refine z_aload_n C 0 dX7_word_75 rfl ?_
        refine mg_27 C dX7_word_76 ?_
        refine z_iload C 5 dX7_word_79 rfl ?_
        refine ml_27 C (wofN wi + i) rfl (by first | assumption | omega) dX7_word_81 ?_
        refine z_top (wrd.getD (wofN wi + i) 0) (by rw [rM_27]; exact hWd _ (by omega)) ?_
        refine z_if_ne C 93 dX7_word_82 (by decide) (fun h82 => ?_) (fun h82 => ?_)
        · skip
          have hF : fwP (cT M b) len wi (fll wi) (a, none) = (a + i, some (a + i)) := fw_end hi hm (wr_m1 _ (by omega)) (by rw [nx_no (fun z => absurd h40 (nI_ge z (by omega)))]; exact fun z => wr_m1 _ (by omega) z.symm)
          have hfr : (frP (cT M b) len a wi) ≤ len := fr_le ha (fun q hq => (fw_ok (T := (cT M b)) (len := len) (s := (a, none)) ⟨ha, fun _ z => by cases z⟩ hq (Nat.le_refl _)).1) (by omega)
          have hfr2 := hfr
          refine z_iload C 4 dX7_word_93 rfl ?_
          refine z_iload_n C 2 dX7_word_95 rfl ?_
          refine z_icmp_le C 104 dX7_word_96 (by decide) (fun h96 => ?_) (fun h96 => ?_)
          · skip
            refine z_iload_n C 2 dX7_word_104 rfl ?_
            refine z_istore_n (i := 2) C dX7_word_105 rfl (by decide) ?_
            refine z_pick [1, 2, 0, 3] rfl ?_
            have eF : frP (cT M b) len a (wi + 1) = frP (cT M b) len a wi := by
              simp only [frP]
              rw [hF]; exact if_neg (fun z => absurd h96 (nI_ge z (by omega)))
            have hall2 : ∀ q, q < wi + 1 → ¬ (fwP (cT M b) len q (fll q) (a, none)).2 = none := by
              intro q hq
              rcases Nat.lt_or_ge q wi with z | z
              · exact hall q z
              · have e : q = wi := by omega
                subst e; rw [hF]; exact fun z => by cases z
            have q := lp_word_106 M hR g ha n w tl hw8 (ih9 hall2) C0 (fll wi + 1) 0 (by omega) (by omega)
            rw [eF] at q
            exact q
          · skip
            refine z_iload C 4 dX7_word_99 rfl ?_
            refine z_goto C 105 dX7_word_101 (by decide) ?_
            refine z_istore_n (i := 2) C dX7_word_105 rfl (by decide) ?_
            refine z_pick [1, 2, 0, 3] rfl ?_
            have eF : frP (cT M b) len a (wi + 1) = (a + i) := by
              simp only [frP]
              rw [hF]; exact if_pos (nI_lt_of h96 (by omega) (by omega))
            have hall2 : ∀ q, q < wi + 1 → ¬ (fwP (cT M b) len q (fll q) (a, none)).2 = none := by
              intro q hq
              rcases Nat.lt_or_ge q wi with z | z
              · exact hall q z
              · have e : q = wi := by omega
                subst e; rw [hF]; exact fun z => by cases z
            have q := lp_word_106 M hR g ha n w tl hw8 (ih9 hall2) C0 (fll wi + 1) 0 (by omega) (by omega)
            rw [eF] at q
            exact q
        · exact absurd h82 h31
      · skip
        have ha2 : a + i < len := nI_lt_of h40 (by omega) (by omega)
        refine z_aload_n C 0 dX7_word_43 rfl ?_
        refine mg_25 C dX7_word_44 ?_
        refine z_aload_n C 0 dX7_word_47 rfl ?_
        refine mg_30 C dX7_word_48 ?_
        refine z_top (nI b) ((rM_i (by decide)).trans hb) ?_
        refine z_iload C 4 dX7_word_51 rfl ?_
        refine z_iadd C dX7_word_53 ?_
        refine z_top (nI (b + (a + i))) (nI_add _ _) ?_
        refine ml_25 C (b + (a + i)) rfl (by first | assumption | omega) dX7_word_54 ?_
        refine z_l2i C dX7_word_55 ?_
        refine z_top (nxP (cT M b) len (a + i)) (nx_at ha2) ?_
        refine z_aload_n C 0 dX7_word_56 rfl ?_
        refine mg_27 C dX7_word_57 ?_
        refine z_iload C 5 dX7_word_60 rfl ?_
        refine ml_27 C (wofN wi + i) rfl (by first | assumption | omega) dX7_word_62 ?_
        refine z_top (wrd.getD (wofN wi + i) 0) (by rw [rM_27]; exact hWd _ (by omega)) ?_
        refine z_icmp_ne C 75 dX7_word_63 (by decide) (fun h63 => ?_) (fun h63 => ?_)
        · skip
          refine z_aload_n C 0 dX7_word_75 rfl ?_
          refine mg_27 C dX7_word_76 ?_
          refine z_iload C 5 dX7_word_79 rfl ?_
          refine ml_27 C (wofN wi + i) rfl (by first | assumption | omega) dX7_word_81 ?_
          refine z_top (wrd.getD (wofN wi + i) 0) (by rw [rM_27]; exact hWd _ (by omega)) ?_
          refine z_if_ne C 93 dX7_word_82 (by decide) (fun h82 => ?_) (fun h82 => ?_)
          · skip
            have hF : fwP (cT M b) len wi (fll wi) (a, none) = (a + i, some (a + i)) := fw_end hi hm (wr_m1 _ (by omega)) (by exact h63)
            have hfr : (frP (cT M b) len a wi) ≤ len := fr_le ha (fun q hq => (fw_ok (T := (cT M b)) (len := len) (s := (a, none)) ⟨ha, fun _ z => by cases z⟩ hq (Nat.le_refl _)).1) (by omega)
            have hfr2 := hfr
            refine z_iload C 4 dX7_word_93 rfl ?_
            refine z_iload_n C 2 dX7_word_95 rfl ?_
            refine z_icmp_le C 104 dX7_word_96 (by decide) (fun h96 => ?_) (fun h96 => ?_)
            · skip
              refine z_iload_n C 2 dX7_word_104 rfl ?_
              refine z_istore_n (i := 2) C dX7_word_105 rfl (by decide) ?_
              refine z_pick [1, 2, 0, 3] rfl ?_
              have eF : frP (cT M b) len a (wi + 1) = frP (cT M b) len a wi := by
                simp only [frP]
                rw [hF]; exact if_neg (fun z => absurd h96 (nI_ge z (by omega)))
              have hall2 : ∀ q, q < wi + 1 → ¬ (fwP (cT M b) len q (fll q) (a, none)).2 = none := by
                intro q hq
                rcases Nat.lt_or_ge q wi with z | z
                · exact hall q z
                · have e : q = wi := by omega
                  subst e; rw [hF]; exact fun z => by cases z
              have q := lp_word_106 M hR g ha n w tl hw8 (ih9 hall2) C0 (fll wi + 1) 0 (by omega) (by omega)
              rw [eF] at q
              exact q
            · skip
              refine z_iload C 4 dX7_word_99 rfl ?_
              refine z_goto C 105 dX7_word_101 (by decide) ?_
              refine z_istore_n (i := 2) C dX7_word_105 rfl (by decide) ?_
              refine z_pick [1, 2, 0, 3] rfl ?_
              have eF : frP (cT M b) len a (wi + 1) = (a + i) := by
                simp only [frP]
                rw [hF]; exact if_pos (nI_lt_of h96 (by omega) (by omega))
              have hall2 : ∀ q, q < wi + 1 → ¬ (fwP (cT M b) len q (fll q) (a, none)).2 = none := by
                intro q hq
                rcases Nat.lt_or_ge q wi with z | z
                · exact hall q z
                · have e : q = wi := by omega
                  subst e; rw [hF]; exact fun z => by cases z
              have q := lp_word_106 M hR g ha n w tl hw8 (ih9 hall2) C0 (fll wi + 1) 0 (by omega) (by omega)
              rw [eF] at q
              exact q
          · exact absurd h82 h31
        · skip
          refine z_iinc C (v := nI ((a + i) + 1)) 4 dX7_word_66 rfl (nI_1 _) (by decide) ?_
          refine z_iinc C (v := nI ((wofN wi + i) + 1)) 5 dX7_word_69 rfl (nI_1 _) (by decide) ?_
          refine z_goto C 24 dX7_word_72 (by decide) ?_
          refine z_pick [2, 3, 4, 5, 1, 0] rfl ?_
          exact ih (i + 1) (by omega) (by omega) (fw_hit hm (wr_m1 _ (by omega)) h63) ha2
set_option maxRecDepth 100000 in
set_option maxHeartbeats 4000000 in
theorem lp_word_9 {l : Launch} {E : zE} {K : zK} {s : State} (M : zM) {b len : Nat} (hR : rdo M b len) (g : zGc) {a : Nat} (ha : a ≤ len) (n w : Int32) (tl : Nat → Int32) (C0 : MR l E K cX7_word RX7 1 s 6 (some .int) (fun v M2 => (∃ wi, wi < 8 ∧ v = some (.int (nI wi)) ∧ fwP (cT M b) len wi (fll wi) (a, none) = (a + fll wi, none) ∧ a + fll wi ≤ len ∧ M2 = rM M g (a + fll wi) n w tl) ∨ (v = some (.int (-1)) ∧ M2 = rM M g a n (nI (frP (cT M b) len a 8)) tl ∧ ∀ wi, wi < 8 → ¬ (fwP (cT M b) len wi (fll wi) (a, none)).2 = none))) : ∀ (n2 : Nat) (wi : Nat), (8 - wi < n2) → (wi ≤ 8) → (∀ q, q < wi → ¬ (fwP (cT M b) len q (fll q) (a, none)).2 = none) → Z K (MP E (rM M g a n w tl) s) 9 [(0, .ref (madr E.2.2.1 (0, 0, 0))), (1, .int (nI (wofN wi))), (2, .int (nI (frP (cT M b) len a wi))), (3, .int (nI wi))] [] := by
  have C := C0.c
  intro n2
  induction n2 with
  | zero => intro wi hk hwl hall; exact absurd hk (Nat.not_lt_zero _)
  | succ n2 ih =>
    intro wi hk hwl hall
    obtain ⟨hb, he, hbl, hl, hWd, hNm⟩ := id hR
    refine z_iload_n C 3 dX7_word_9 rfl ?_
    refine z_bipush C (v := 8) dX7_word_10 rfl ?_
    refine z_icmp_ge C 130 dX7_word_12 (by decide) (fun h12 => ?_) (fun h12 => ?_)
    · skip
      refine z_aload_n C 0 dX7_word_130 rfl ?_
      refine z_iload_n C 2 dX7_word_131 rfl ?_
      refine mp_34 C dX7_word_132 ?_
      rw [rM_w]
      refine z_iconst C (v := (-1)) dX7_word_135 rfl ?_
      refine z_iret C0 dX7_word_136 ?_
      have e : wi = 8 := by
        rcases Nat.lt_or_ge wi 8 with q | q
        · exact absurd h12 (nI_ge (b := 8) q (by omega))
        · omega
      subst e
      exact Or.inr ⟨rfl, rfl, hall⟩
    · skip
      have hw8 : wi < 8 := by
        rcases Nat.lt_or_ge wi 8 with q | q
        · exact q
        · exact absurd (nI_le (a := 8) (b := wi) q (by omega)) h12
      have hwb := wr_b wi hw8
      have hw9 := fll_le wi hw8
      refine z_aload_n C 0 dX7_word_15 rfl ?_
      refine mg_31 C dX7_word_16 ?_
      refine z_top (nI a) (rfl) ?_
      refine z_istore C dX7_word_19 (by decide) ?_
      refine z_iload_n C 2 dX7_word_21 rfl ?_
      refine z_istore C dX7_word_22 (by decide) ?_
      refine z_pick [2, 3, 4, 5, 1, 0] rfl ?_
      exact lp_word_24 M hR g ha n w tl hw8 hall (fun z => ih (wi + 1) (by omega) (by omega) z) C0 (fll wi + 1) 0 (by omega) (by omega) rfl ha
set_option maxRecDepth 100000 in
set_option maxHeartbeats 4000000 in
theorem c_X7_word (l : Launch) (E : zE) (M : zM) {b len : Nat} (hR : rdo M b len) (g : zGc) {a : Nat} (ha : a ≤ len) (n w : Int32) (tl : Nat → Int32) : MM l E yX7_word cX7_word 6 (some .int) 1 [.ref (madr E.2.2.1 (0, 0, 0))] (rM M g a n w tl) (fun v M2 => (∃ wi, wi < 8 ∧ v = some (.int (nI wi)) ∧ fwP (cT M b) len wi (fll wi) (a, none) = (a + fll wi, none) ∧ a + fll wi ≤ len ∧ M2 = rM M g (a + fll wi) n w tl) ∨ (v = some (.int (-1)) ∧ M2 = rM M g a n (nI (frP (cT M b) len a 8)) tl ∧ ∀ wi, wi < 8 → ¬ (fwP (cT M b) len wi (fll wi) (a, none)).2 = none)) := by
  refine MM.mk kq_X7 (Nat.le_of_ble_eq_true rfl) (fun K s C0 => ?_)
  have C := C0.c
  obtain ⟨hb, he, hbl, hl, hWd, hNm⟩ := id hR
  refine z_iconst C (v := 0) dX7_word_0 rfl ?_
  refine z_istore_n (i := 1) C dX7_word_1 rfl (by decide) ?_
  refine z_aload_n C 1 dX7_word_2 rfl ?_
  refine mg_31 C dX7_word_3 ?_
  refine z_top (nI a) (rfl) ?_
  refine z_istore_n (i := 2) C dX7_word_6 rfl (by decide) ?_
  refine z_iconst C (v := 0) dX7_word_7 rfl ?_
  refine z_istore_n (i := 3) C dX7_word_8 rfl (by decide) ?_
  refine z_pick [3, 2, 1, 0] rfl ?_
  exact lp_word_9 M hR g ha n w tl C0 9 0 (by omega) (by omega) (fun q hq => absurd hq (Nat.not_lt_zero _))
