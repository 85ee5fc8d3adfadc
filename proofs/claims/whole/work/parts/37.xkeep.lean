/-! the class: who keeps which shop -/
def clrN (g : zGc) : Nat → zGc
  | 0 => g
  | c + 1 => gCh (clrN g c) c 5 (-1)
/-- the first i shops given to the children of t -/
def giN (g : zGc) (t : Nat → Nat) : Nat → zGc
  | 0 => clrN g (nC g)
  | i + 1 => gCh (giN g t i) (t i) 5 (nI i)
def okN (g : zGc) (t : Nat → Nat) : Nat → Bool
  | 0 => true
  | i + 1 => okN g t i && decide ((giN g t i).2.2 (t i) 5 = -1)
def tup (m k w p : Nat) : Nat := w / m ^ (k - 1 - p) % m
def mkW (g : zGc) (k w : Nat) : Int32 := if okN g (tup (nC g) k w) k = true then (run 0 30 (giN g (tup (nC g) k w) k)).1 6 - g.1 6 else -1
def bwN (g : zGc) (k : Nat) : Nat → Nat × Int32
  | 0 => (0, -1)
  | w + 1 => if (bwN g k w).2 < mkW g k w then (w, mkW g k w) else bwN g k w
def kKeep (g : zGc) (k i : Int32) : Int32 := if k < 1 then -6 else if 4 < k then -6 else if g.1 0 < k then -6 else if g.1 1 < k then -6 else if i < -1 then -5 else if k ≤ i then -5 else 0
def aKeep (g : zGc) (kk : Nat) (i : Int32) : Int32 := if i = -1 then mkW g kk (bwN g kk (nC g ^ kk)).1 else nI (tup (nC g) kk (bwN g kk (nC g ^ kk)).1 i.toNatClampNeg)
theorem clrN_1 {g : zGc} : ∀ {n : Nat}, (clrN g n).1 = g.1
  | 0 => rfl
  | n + 1 => clrN_1 (n := n)
theorem sk_clr {g : zGc} : ∀ {n : Nat}, sk g (clrN g n)
  | 0 => sk.rf _
  | n + 1 => (sk_clr (n := n)).tr (sk_ch (by decide))
theorem sk_gi {g : zGc} {t : Nat → Nat} : ∀ {i : Nat}, sk g (giN g t i)
  | 0 => sk_clr
  | i + 1 => (sk_gi (i := i)).tr (sk_ch (by decide))
theorem tup_lt {m k w p : Nat} (h : 0 < m) : tup m k w p < m := Nat.mod_lt _ h
theorem okN_f {g : zGc} {t : Nat → Nat} {i : Nat} : ∀ {n : Nat}, i ≤ n → okN g t i = false → okN g t n = false
  | 0, h, h2 => by have : i = 0 := by omega
                   subst this; exact h2
  | n + 1, h, h2 => by
    rcases Nat.lt_or_ge n i with q | q
    · have : i = n + 1 := by omega
      subst this; exact h2
    · simp only [okN, okN_f q h2, Bool.false_and]
theorem bwN_le {g : zGc} {k : Nat} : ∀ {w : Nat}, (bwN g k w).1 ≤ w
  | 0 => Nat.le_refl _
  | w + 1 => by
    have := bwN_le (g := g) (k := k) (w := w)
    simp only [bwN]
    split
    · exact Nat.le_succ _
    · omega
theorem pw_le {m k : Nat} (hm : m ≤ 6) (hk : k ≤ 4) : m ^ k ≤ 1296 := by
  have h1 : m ^ k ≤ 6 ^ k := Nat.pow_le_pow_left hm k
  have h2 : 6 ^ k ≤ 6 ^ 4 := Nat.pow_le_pow_right (by decide) hk
  have h3 : 6 ^ 4 = 1296 := rfl
  omega
theorem kp_div {m w kk jj : Nat} (hm : 0 < m) (hm2 : m < 2 ^ 31) (hw : w < 2000) (h : jj ≤ kk - 1) (h0 : 0 < jj) : nI (w / m ^ (kk - 1 - jj)) / nI m = nI (w / m ^ (kk - 1 - (jj - 1))) := by
  have h1 : w / m ^ (kk - 1 - jj) ≤ w := Nat.div_le_self _ _
  rw [pk_div (by omega) hm hm2, Nat.div_div_eq_div_mul, ← Nat.pow_succ, show (kk - 1 - jj).succ = kk - 1 - (jj - 1) by omega]
theorem i_1n {x : Int32} {n : Nat} (h : ¬ x < 1) (h2 : ¬ nI n < x) (hn : n < 2 ^ 31) : ∃ j, 1 ≤ j ∧ j ≤ n ∧ x = nI j := by
  have e1 : (1 : Int32).toInt = 1 := rfl
  have hr := i_ran x
  rw [i_lt, e1] at h
  rw [i_lt, nI_toInt hn] at h2
  exact ⟨x.toInt.toNat, by omega, by omega, i_nat (by omega)⟩
theorem i_m1 {x : Int32} (h : ¬ x < -1) (h2 : ¬ x = -1) : ¬ x < 0 := by
  have e1 : (-1 : Int32).toInt = -1 := rfl
  have e0 : (0 : Int32).toInt = 0 := rfl
  rw [i_lt, e1] at h
  rw [i_eq, e1] at h2
  rw [i_lt, e0]
  omega
set_option maxRecDepth 100000 in
set_option maxHeartbeats 4000000 in
theorem lp_X6_keeperIn {l : Launch} {E : zE} {K : zK} {s : State} (F : zF) (hI : XI F) {w kk : Nat} (hw2 : w < 2000) (hk1 : 1 ≤ kk) (hk4 : kk ≤ 4) (hm : 0 < nC (F.1 0).1) {ii : Nat} (hi : ii < kk) (C0 : XR l E K cX6_keeperIn RX6 1 s 7 (some .int) (fun v F2 => v = some (.int (nI (tup (nC (F.1 0).1) kk w ii))) ∧ F2 = F)) : ∀ (n2 : Nat) (jj : Nat), (jj - ii < n2) → (ii ≤ jj) → (jj ≤ kk - 1) → Z K (XP E (F) s) 29 [(0, .ref (xadr E.2.2.1 (0, 0, 0))), (3, .int (nI ii)), (4, .int (nI (nC (F.1 0).1))), (5, .int (nI (w / (nC (F.1 0).1) ^ (kk - 1 - jj)))), (6, .int (nI jj))] [] := by
  have C := C0.c
  intro n2
  induction n2 with
  | zero => intro jj hk hj1 hj2; exact absurd hk (Nat.not_lt_zero _)
  | succ n2 ih =>
    intro jj hk hj1 hj2
    obtain ⟨hz, hw, hsh⟩ := id hI
    obtain ⟨⟨eS, lS⟩, ⟨eC, lC⟩⟩ := id hz
    refine z_iload C 4 dX6_keeperIn_29 rfl ?_
    refine z_iload_n C 1 dX6_keeperIn_31 rfl ?_
    refine z_icmp_le C 48 dX6_keeperIn_32 (by decide) (fun h32 => ?_) (fun h32 => ?_)
    · skip
      have ej : jj = ii := by
        rcases Nat.lt_or_ge ii jj with q | q
        · exact absurd h32 (nI_ge q (by omega))
        · omega
      refine z_iload C 3 dX6_keeperIn_48 rfl ?_
      refine z_iload C 2 dX6_keeperIn_50 rfl ?_
      refine z_irem C dX6_keeperIn_52 (nI_ne0 hm (by omega)) ?_
      refine z_top (nI (tup (nC (F.1 0).1) kk w ii)) (by subst ej; exact pk_rem (Nat.lt_of_le_of_lt (Nat.div_le_self _ _) (by omega)) hm (by omega)) ?_
      refine z_iret C0 dX6_keeperIn_53 ?_
      exact ⟨rfl, rfl⟩
    · skip
      have hlt : ii < jj := by
        rcases Nat.lt_or_ge ii jj with q | q
        · exact q
        · exact absurd (nI_le q (by omega)) h32
      refine z_iload C 3 dX6_keeperIn_35 rfl ?_
      refine z_iload C 2 dX6_keeperIn_37 rfl ?_
      refine z_idiv C dX6_keeperIn_39 (nI_ne0 hm (by omega)) ?_
      refine z_top (nI (w / (nC (F.1 0).1) ^ (kk - 1 - (jj - 1)))) (kp_div hm (by omega) hw2 hj2 (by omega)) ?_
      refine z_istore C dX6_keeperIn_40 (by decide) ?_
      refine z_iinc C (v := nI (jj - 1)) 4 dX6_keeperIn_42 rfl (sb_m1 (by omega)) (by decide) ?_
      refine z_goto C 29 dX6_keeperIn_45 (by decide) ?_
      refine z_pick [2, 3, 4, 1, 0] rfl ?_
      exact ih (jj - 1) (by omega) (by omega) (by omega)
set_option maxRecDepth 100000 in
set_option maxHeartbeats 4000000 in
theorem c_X6_keeperIn (l : Launch) (E : zE) (F : zF) (hI : XI F) {w kk : Nat} (hw2 : w < 2000) (hk1 : 1 ≤ kk) (hk4 : kk ≤ 4) (hm : 0 < nC (F.1 0).1) {ii : Nat} (hi : ii < kk) : XM l E yX6_keeperIn cX6_keeperIn 7 (some .int) 1 [.ref (xadr E.2.2.1 (0, 0, 0)), .int (nI w), .int (nI kk), .int (nI ii)] (F) (fun v F2 => v = some (.int (nI (tup (nC (F.1 0).1) kk w ii))) ∧ F2 = F) := by
  refine XM.mk kq_X6 (Nat.le_of_ble_eq_true rfl) (fun K s C0 => ?_)
  have C := C0.c
  obtain ⟨hz, hw, hsh⟩ := id hI
  obtain ⟨⟨eS, lS⟩, ⟨eC, lC⟩⟩ := id hz
  refine z_aload_n C 0 dX6_keeperIn_0 rfl ?_
  refine xg_0_2 C kf_X6_22 dX6_keeperIn_1 ?_
  refine xg_3 (k := 1) C (by decide) (by decide) kf_X6_123 dX6_keeperIn_4 ?_
  refine z_top (nI (nC (F.1 0).1)) (eC) ?_
  refine z_istore C dX6_keeperIn_7 (by decide) ?_
  refine z_iload_n C 2 dX6_keeperIn_9 rfl ?_
  refine z_if_lt C 19 dX6_keeperIn_10 (by decide) (fun h10 => ?_) (fun h10 => ?_)
  · exact absurd h10 (nI_pos (by omega))
  · skip
    refine z_iload C 0 dX6_keeperIn_13 rfl ?_
    refine z_iconst C (v := 1) dX6_keeperIn_15 rfl ?_
    refine z_icmp_ge C 21 dX6_keeperIn_16 (by decide) (fun h16 => ?_) (fun h16 => ?_)
    · skip
      refine z_iload_n C 2 dX6_keeperIn_21 rfl ?_
      refine z_istore C dX6_keeperIn_22 (by decide) ?_
      refine z_iload_n C 4 dX6_keeperIn_24 rfl ?_
      refine z_iconst C (v := 1) dX6_keeperIn_25 rfl ?_
      refine z_isub C dX6_keeperIn_26 ?_
      refine z_top (nI (kk - 1)) (pk_sub (b := 1) hk1) ?_
      refine z_istore C dX6_keeperIn_27 (by decide) ?_
      refine z_pick [3, 6, 2, 1, 0] rfl ?_
      have q := lp_X6_keeperIn F hI hw2 hk1 hk4 hm hi C0 (kk - 1 - ii + 1) (kk - 1) (by omega) (by omega) (Nat.le_refl _)
      rw [show w / (nC (F.1 0).1) ^ (kk - 1 - (kk - 1)) = w by rw [Nat.sub_self, Nat.pow_zero, Nat.div_one]] at q
      exact q
    · exact absurd (nI_le (a := 1) hm (by omega)) h16
set_option maxRecDepth 100000 in
set_option maxHeartbeats 4000000 in
theorem lp_X6_dealsOfWay_45 {l : Launch} {E : zE} {K : zK} {s : State} (F : zF) (hI : XI F) {w kk : Nat} (hw2 : w < 2000) (hk1 : 1 ≤ kk) (hk4 : kk ≤ 4) (hm : 0 < nC (F.1 0).1) (hkC : kk ≤ nC (F.1 0).1) (C0 : XR l E K cX6_dealsOfWay RX6 6 s 5 (some .int) (fun v F2 => v = some (.int (mkW (F.1 0).1 kk w)) ∧ thO F F2)) : ∀ (n2 : Nat) (i : Nat) (X : zGf), (kk - i < n2) → (i ≤ kk) → (eqv X.1 (giN (F.1 0).1 (tup (nC (F.1 0).1) kk w) i)) → (okN (F.1 0).1 (tup (nC (F.1 0).1) kk w) i = true) → Z K (XP E (sG F 1 X) s) 45 [(0, .ref (xadr E.2.2.1 (0, 0, 0))), (1, .int (nI w)), (2, .int (nI kk)), (3, .int (nI i))] [] := by
  have C := C0.c
  intro n2
  induction n2 with
  | zero => intro i X hk hil hX hO; exact absurd hk (Nat.not_lt_zero _)
  | succ n2 ih =>
    intro i X hk hil hX hO
    obtain ⟨hz, hw, hsh⟩ := id hI
    obtain ⟨⟨eS, lS⟩, ⟨eC, lC⟩⟩ := id hz
    refine z_iload_n C 3 dX6_dealsOfWay_45 rfl ?_
    refine z_iload_n C 2 dX6_dealsOfWay_46 rfl ?_
    refine z_icmp_ge C 90 dX6_dealsOfWay_47 (by decide) (fun h47 => ?_) (fun h47 => ?_)
    · skip
      have ei : i = kk := by
        rcases Nat.lt_or_ge i (kk) with q | q
        · exact absurd h47 (nI_ge q (by omega))
        · omega
      have zX : gz X.1 := hX.z (sk_gi.z hz)
      have wX : wn X.1 := hX.w (sk_gi.w hw)
      refine z_aload_n C 0 dX6_dealsOfWay_90 rfl ?_
      refine xg_0_3 C kf_X6_26 dX6_dealsOfWay_91 ?_
      refine z_iconst C (v := 0) dX6_dealsOfWay_94 rfl ?_
      refine z_bipush C (v := 30) dX6_dealsOfWay_95 rfl ?_
      refine z_top (nI 30) (rfl) ?_
      refine z_callV2 C (cg_X1_passMinutes l E (sG F 1 X) (gi := 1) (by decide) zX wX (rule := 0) (n := 30) (by omega)) ⟨(by decide), rfl⟩ rfl rfl q_X6_222 ⟨by decide, by decide⟩ (Nat.le_of_ble_eq_true rfl) dX6_dealsOfWay_97 (fun v F9 hp => ?_)
      obtain ⟨rfl, e9⟩ := hp
      rw [e9]
      clear e9 F9
      rw [sG_sG, sG_at]
      have eR := e_run (rule := 0) (n := 30) (A := X) hX (sk_gi.z hz)
      generalize minutes 0 30 X = Y at eR ⊢
      refine z_aload_n C 0 dX6_dealsOfWay_100 rfl ?_
      refine xg_0_3 C kf_X6_26 dX6_dealsOfWay_101 ?_
      refine xg_3F (k := 6) C (by decide) (by decide) kf_X6_225 dX6_dealsOfWay_104 ?_
      refine z_aload_n C 0 dX6_dealsOfWay_107 rfl ?_
      refine xg_0_2 C kf_X6_22 dX6_dealsOfWay_108 ?_
      refine xg_3 (k := 6) C (by decide) (by decide) kf_X6_225 dX6_dealsOfWay_111 ?_
      refine z_isub C dX6_dealsOfWay_114 ?_
      refine z_iret C0 dX6_dealsOfWay_115 ?_
      subst ei
      refine ⟨?_, _, rfl⟩
      unfold mkW
      rw [if_pos hO, ← eR.1 6 (by omega)]
      rfl
    · skip
      have hik : i < kk := by
        rcases Nat.lt_or_ge i (kk) with q | q
        · exact q
        · exact absurd (nI_le q (by omega)) h47
      have ht6 : (tup (nC (F.1 0).1) kk w i) < 6 := Nat.lt_of_lt_of_le (tup_lt hm) lC
      refine z_aload_n C 0 dX6_dealsOfWay_50 rfl ?_
      refine xg_0_3 C kf_X6_26 dX6_dealsOfWay_51 ?_
      refine xg_3c C (by decide) kf_X6_152 dX6_dealsOfWay_54 ?_
      refine z_aload_n C 0 dX6_dealsOfWay_57 rfl ?_
      refine z_iload_n C 1 dX6_dealsOfWay_58 rfl ?_
      refine z_iload_n C 2 dX6_dealsOfWay_59 rfl ?_
      refine z_iload_n C 3 dX6_dealsOfWay_60 rfl ?_
      refine z_callV3 C (c_X6_keeperIn l E (sG F 1 X) (hI.th X) hw2 hk1 hk4 hm (ii := i) hik) ⟨by decide, rfl, rfl⟩ rfl rfl q_X6_234 ⟨by decide, by decide⟩ (Nat.le_of_ble_eq_true rfl) dX6_dealsOfWay_61 (fun v F9 hp => ?_)
      obtain ⟨rfl, e9⟩ := hp
      rw [e9]
      clear e9 F9
      rw [sG_ne F X (show (0 : Nat) ≠ 1 by decide)]
      refine xa_5 C (by decide) (tup (nC (F.1 0).1) kk w i) rfl ht6 dX6_dealsOfWay_64 ?_
      refine z_astore C dX6_dealsOfWay_65 (by decide) ?_
      refine z_aload C 0 dX6_dealsOfWay_67 rfl ?_
      refine xg_7F (k := 5) C (by decide) (by first | assumption | omega) (by decide) kf_X6_173 dX6_dealsOfWay_69 ?_
      refine z_iconst C (v := (-1)) dX6_dealsOfWay_72 rfl ?_
      refine z_icmp_eq C 78 dX6_dealsOfWay_73 (by decide) (fun h73 => ?_) (fun h73 => ?_)
      · skip
        refine z_aload C 0 dX6_dealsOfWay_78 rfl ?_
        refine z_iload_n C 4 dX6_dealsOfWay_80 rfl ?_
        refine xp_7F (k := 5) C (by decide) (by first | assumption | omega) (by decide) kf_X6_173 dX6_dealsOfWay_81 ?_
        refine z_iinc C (v := nI (i + 1)) 4 dX6_dealsOfWay_84 rfl (nI_1 _) (by decide) ?_
        refine z_goto C 45 dX6_dealsOfWay_87 (by decide) ?_
        refine z_pick [2, 3, 4, 0] rfl ?_
        exact ih (i + 1) (fCh X (tup (nC (F.1 0).1) kk w i) 5 (nI i)) (by omega) (by omega) (e_ch hX) (by simp only [okN, hO]; rw [← hX.2.2 _ (by rw [sk_gi.C]; exact tup_lt hm) 5 (by omega)]; simp [h73])
      · skip
        refine z_iconst C (v := (-1)) dX6_dealsOfWay_76 rfl ?_
        refine z_iret C0 dX6_dealsOfWay_77 ?_
        refine ⟨?_, X, rfl⟩
        unfold mkW
        rw [if_neg (by rw [okN_f (show i + 1 ≤ kk by omega) (by simp only [okN, hO]; rw [← hX.2.2 _ (by rw [sk_gi.C]; exact tup_lt hm) 5 (by omega)]; simp [h73])]; decide)]
set_option maxRecDepth 100000 in
set_option maxHeartbeats 4000000 in
theorem lp_X6_dealsOfWay_13 {l : Launch} {E : zE} {K : zK} {s : State} (F : zF) (hI : XI F) {w kk : Nat} (hw2 : w < 2000) (hk1 : 1 ≤ kk) (hk4 : kk ≤ 4) (hm : 0 < nC (F.1 0).1) (hkC : kk ≤ nC (F.1 0).1) (C0 : XR l E K cX6_dealsOfWay RX6 6 s 5 (some .int) (fun v F2 => v = some (.int (mkW (F.1 0).1 kk w)) ∧ thO F F2)) : ∀ (n2 : Nat) (c : Nat) (X : zGf), ((nC (F.1 0).1) - c < n2) → (c ≤ (nC (F.1 0).1)) → (eqv X.1 (clrN (F.1 0).1 c)) → Z K (XP E (sG F 1 X) s) 13 [(0, .ref (xadr E.2.2.1 (0, 0, 0))), (1, .int (nI w)), (2, .int (nI kk)), (3, .int (nI c))] [] := by
  have C := C0.c
  intro n2
  induction n2 with
  | zero => intro c X hk hkl hX; exact absurd hk (Nat.not_lt_zero _)
  | succ n2 ih =>
    intro c X hk hkl hX
    obtain ⟨hz, hw, hsh⟩ := id hI
    obtain ⟨⟨eS, lS⟩, ⟨eC, lC⟩⟩ := id hz
    refine z_iload_n C 3 dX6_dealsOfWay_13 rfl ?_
    refine z_aload_n C 0 dX6_dealsOfWay_14 rfl ?_
    refine xg_0_3 C kf_X6_26 dX6_dealsOfWay_15 ?_
    refine xg_3F (k := 1) C (by decide) (by decide) kf_X6_123 dX6_dealsOfWay_18 ?_
    rw [show X.1.1 1 = nI (nC (F.1 0).1) by rw [hX.1 1 (by omega), clrN_1]; exact eC]
    refine z_icmp_ge C 43 dX6_dealsOfWay_21 (by decide) (fun h21 => ?_) (fun h21 => ?_)
    · skip
      refine z_iconst C (v := 0) dX6_dealsOfWay_43 rfl ?_
      refine z_istore_n (i := 3) C dX6_dealsOfWay_44 rfl (by decide) ?_
      refine z_pick [1, 2, 3, 0] rfl ?_
      have ec : c = (nC (F.1 0).1) := by
        rcases Nat.lt_or_ge c ((nC (F.1 0).1)) with q | q
        · exact absurd h21 (nI_ge q (by omega))
        · omega
      subst ec
      exact lp_X6_dealsOfWay_45 F hI hw2 hk1 hk4 hm hkC C0 (kk + 1) 0 X (by omega) (by omega) hX rfl
    · skip
      have hc : c < (nC (F.1 0).1) := by
        rcases Nat.lt_or_ge c ((nC (F.1 0).1)) with q | q
        · exact q
        · exact absurd (nI_le q (by omega)) h21
      have hc6 : c < 6 := by omega
      refine z_aload_n C 0 dX6_dealsOfWay_24 rfl ?_
      refine xg_0_3 C kf_X6_26 dX6_dealsOfWay_25 ?_
      refine xg_3c C (by decide) kf_X6_152 dX6_dealsOfWay_28 ?_
      refine z_iload_n C 3 dX6_dealsOfWay_31 rfl ?_
      refine xa_5 C (by decide) c rfl (by first | assumption | omega) dX6_dealsOfWay_32 ?_
      refine z_iconst C (v := (-1)) dX6_dealsOfWay_33 rfl ?_
      refine xp_7F (k := 5) C (by decide) (by first | assumption | omega) (by decide) kf_X6_173 dX6_dealsOfWay_34 ?_
      refine z_iinc C (v := nI (c + 1)) 3 dX6_dealsOfWay_37 rfl (nI_1 _) (by decide) ?_
      refine z_goto C 13 dX6_dealsOfWay_40 (by decide) ?_
      refine z_pick [1, 2, 3, 0] rfl ?_
      exact ih (c + 1) (fCh X c 5 (-1)) (by omega) (by omega) (e_ch hX)
set_option maxRecDepth 100000 in
set_option maxHeartbeats 4000000 in
theorem c_X6_dealsOfWay (l : Launch) (E : zE) (F : zF) (hI : XI F) {w kk : Nat} (hw2 : w < 2000) (hk1 : 1 ≤ kk) (hk4 : kk ≤ 4) (hm : 0 < nC (F.1 0).1) (hkC : kk ≤ nC (F.1 0).1) : XM l E yX6_dealsOfWay cX6_dealsOfWay 5 (some .int) 6 [.ref (xadr E.2.2.1 (0, 0, 0)), .int (nI w), .int (nI kk)] (F) (fun v F2 => v = some (.int (mkW (F.1 0).1 kk w)) ∧ thO F F2) := by
  refine XM.mk kq_X6 (Nat.le_of_ble_eq_true rfl) (fun K s C0 => ?_)
  have C := C0.c
  obtain ⟨hz, hw, hsh⟩ := id hI
  obtain ⟨⟨eS, lS⟩, ⟨eC, lC⟩⟩ := id hz
  refine z_aload_n C 0 dX6_dealsOfWay_0 rfl ?_
  refine xg_0_3 C kf_X6_26 dX6_dealsOfWay_1 ?_
  refine z_aload_n C 0 dX6_dealsOfWay_4 rfl ?_
  refine xg_0_2 C kf_X6_22 dX6_dealsOfWay_5 ?_
  refine z_callV1 C (cg_X1_takeAll l E _ (gi := 1) (by decide) (gj := 0) (by decide) (by decide) hz) ⟨(by decide), rfl⟩ rfl rfl q_X6_192 ⟨by decide, by decide⟩ (Nat.le_of_ble_eq_true rfl) dX6_dealsOfWay_8 (fun v F9 hp => ?_)
  obtain ⟨rfl, e9⟩ := hp
  rw [e9]
  clear e9 F9
  have eT := lay_eqv (F.1 0).1 (F.1 1).1
  refine z_iconst C (v := 0) dX6_dealsOfWay_11 rfl ?_
  refine z_istore_n (i := 3) C dX6_dealsOfWay_12 rfl (by decide) ?_
  refine z_pick [1, 2, 3, 0] rfl ?_
  exact lp_X6_dealsOfWay_13 F hI hw2 hk1 hk4 hm hkC C0 (nC (F.1 0).1 + 1) 0 _ (by omega) (by omega) (show eqv (layG (F.1 0).1 (F.1 1).1) (F.1 0).1 from eT)
set_option maxRecDepth 100000 in
set_option maxHeartbeats 4000000 in
theorem lp_X6_bestWay_33 {l : Launch} {E : zE} {K : zK} {s : State} (F : zF) (hI : XI F) {kk : Nat} (hk1 : 1 ≤ kk) (hk4 : kk ≤ 4) (hm : 0 < nC (F.1 0).1) (hkC : kk ≤ nC (F.1 0).1) (C0 : XR l E K cX6_bestWay RX6 7 s 7 (some .int) (fun v F2 => v = some (.int (nI (bwN (F.1 0).1 kk ((nC (F.1 0).1) ^ kk)).1)) ∧ thO F F2)) : ∀ (n2 : Nat) (w : Nat) (X : zGf), ((nC (F.1 0).1) ^ kk - w < n2) → (w ≤ (nC (F.1 0).1) ^ kk) → Z K (XP E (sG F 1 X) s) 33 [(0, .ref (xadr E.2.2.1 (0, 0, 0))), (1, .int (nI kk)), (2, .int (nI ((nC (F.1 0).1) ^ kk))), (3, .int (nI (bwN (F.1 0).1 kk w).1)), (4, .int ((bwN (F.1 0).1 kk w).2)), (5, .int (nI w))] [] := by
  have C := C0.c
  intro n2
  induction n2 with
  | zero => intro w X hk hwl; exact absurd hk (Nat.not_lt_zero _)
  | succ n2 ih =>
    intro w X hk hwl
    obtain ⟨hz, hw, hsh⟩ := id hI
    obtain ⟨⟨eS, lS⟩, ⟨eC, lC⟩⟩ := id hz
    have hpw : (nC (F.1 0).1) ^ kk ≤ 1296 := pw_le lC hk4
    refine z_iload C 5 dX6_bestWay_33 rfl ?_
    refine z_iload_n C 2 dX6_bestWay_35 rfl ?_
    refine z_icmp_ge C 68 dX6_bestWay_36 (by decide) (fun h36 => ?_) (fun h36 => ?_)
    · skip
      refine z_iload_n C 3 dX6_bestWay_68 rfl ?_
      refine z_iret C0 dX6_bestWay_69 ?_
      have ew : w = ((nC (F.1 0).1) ^ kk) := by
        rcases Nat.lt_or_ge w (((nC (F.1 0).1) ^ kk)) with q | q
        · exact absurd h36 (nI_ge q (by omega))
        · omega
      subst ew
      exact ⟨rfl, X, rfl⟩
    · skip
      have hwk : w < ((nC (F.1 0).1) ^ kk) := by
        rcases Nat.lt_or_ge w (((nC (F.1 0).1) ^ kk)) with q | q
        · exact q
        · exact absurd (nI_le q (by omega)) h36
      have hw2 : w < 2000 := by omega
      refine z_aload_n C 0 dX6_bestWay_39 rfl ?_
      refine z_iload C 5 dX6_bestWay_40 rfl ?_
      refine z_iload_n C 1 dX6_bestWay_42 rfl ?_
      refine z_callV2 C (c_X6_dealsOfWay l E (sG F 1 X) (hI.th X) (by first | assumption | omega) hk1 hk4 hm hkC) ⟨by decide, rfl, rfl⟩ rfl rfl q_X6_231 ⟨by decide, by decide⟩ (Nat.le_of_ble_eq_true rfl) dX6_bestWay_43 (fun v F9 hp => ?_)
      obtain ⟨rfl, T2, e9⟩ := hp
      rw [e9, sG_sG]
      clear e9 F9
      rw [sG_ne F X (show (0 : Nat) ≠ 1 by decide)]
      refine z_istore C dX6_bestWay_46 (by decide) ?_
      refine z_iload C 0 dX6_bestWay_48 rfl ?_
      refine z_iload C 5 dX6_bestWay_50 rfl ?_
      refine z_icmp_le C 62 dX6_bestWay_52 (by decide) (fun h52 => ?_) (fun h52 => ?_)
      · skip
        refine z_iinc C (v := nI (w + 1)) 6 dX6_bestWay_62 rfl (nI_1 _) (by decide) ?_
        refine z_goto C 33 dX6_bestWay_65 (by decide) ?_
        refine z_pick [2, 3, 4, 5, 6, 0] rfl ?_
        have q := ih (w + 1) T2 (by omega) (by omega)
        simp only [bwN] at q
        rw [if_neg (Int32.not_lt.mpr h52)] at q
        exact q
      · skip
        refine z_iload C 0 dX6_bestWay_55 rfl ?_
        refine z_istore C dX6_bestWay_57 (by decide) ?_
        refine z_iload C 6 dX6_bestWay_59 rfl ?_
        refine z_istore_n (i := 3) C dX6_bestWay_61 rfl (by decide) ?_
        refine z_iinc C (v := nI (w + 1)) 6 dX6_bestWay_62 rfl (nI_1 _) (by decide) ?_
        refine z_goto C 33 dX6_bestWay_65 (by decide) ?_
        refine z_pick [4, 5, 6, 1, 2, 0] rfl ?_
        have q := ih (w + 1) T2 (by omega) (by omega)
        simp only [bwN] at q
        rw [if_pos (Int32.not_le.mp h52)] at q
        exact q
set_option maxRecDepth 100000 in
set_option maxHeartbeats 4000000 in
theorem lp_X6_bestWay_4 {l : Launch} {E : zE} {K : zK} {s : State} (F : zF) (hI : XI F) {kk : Nat} (hk1 : 1 ≤ kk) (hk4 : kk ≤ 4) (hm : 0 < nC (F.1 0).1) (hkC : kk ≤ nC (F.1 0).1) (C0 : XR l E K cX6_bestWay RX6 7 s 7 (some .int) (fun v F2 => v = some (.int (nI (bwN (F.1 0).1 kk ((nC (F.1 0).1) ^ kk)).1)) ∧ thO F F2)) : ∀ (n2 : Nat) (i : Nat), (kk - i < n2) → (i ≤ kk) → Z K (XP E (F) s) 4 [(0, .ref (xadr E.2.2.1 (0, 0, 0))), (1, .int (nI kk)), (2, .int (nI ((nC (F.1 0).1) ^ i))), (3, .int (nI i))] [] := by
  have C := C0.c
  intro n2
  induction n2 with
  | zero => intro i hk hil; exact absurd hk (Nat.not_lt_zero _)
  | succ n2 ih =>
    intro i hk hil
    obtain ⟨hz, hw, hsh⟩ := id hI
    obtain ⟨⟨eS, lS⟩, ⟨eC, lC⟩⟩ := id hz
    refine z_iload_n C 3 dX6_bestWay_4 rfl ?_
    refine z_iload_n C 1 dX6_bestWay_5 rfl ?_
    refine z_icmp_ge C 25 dX6_bestWay_6 (by decide) (fun h6 => ?_) (fun h6 => ?_)
    · skip
      refine z_iconst C (v := 0) dX6_bestWay_25 rfl ?_
      refine z_istore_n (i := 3) C dX6_bestWay_26 rfl (by decide) ?_
      refine z_iconst C (v := (-1)) dX6_bestWay_27 rfl ?_
      refine z_istore C dX6_bestWay_28 (by decide) ?_
      refine z_iconst C (v := 0) dX6_bestWay_30 rfl ?_
      refine z_istore C dX6_bestWay_31 (by decide) ?_
      refine z_pick [3, 4, 5, 2, 1, 0] rfl ?_
      have ei : i = kk := by
        rcases Nat.lt_or_ge i (kk) with q | q
        · exact absurd h6 (nI_ge q (by omega))
        · omega
      subst ei
      refine z_mono (P2 := XP E (sG F 1 (F.1 1)) s) (fun H h => by rw [sG_id]; exact h) ?_
      exact lp_X6_bestWay_33 F hI hk1 hk4 hm hkC C0 ((nC (F.1 0).1) ^ i + 1) 0 _ (by omega) (by omega)
    · skip
      have hik : i < kk := by
        rcases Nat.lt_or_ge i (kk) with q | q
        · exact q
        · exact absurd (nI_le q (by omega)) h6
      refine z_iload_n C 2 dX6_bestWay_9 rfl ?_
      refine z_aload_n C 0 dX6_bestWay_10 rfl ?_
      refine xg_0_2 C kf_X6_22 dX6_bestWay_11 ?_
      refine xg_3 (k := 1) C (by decide) (by decide) kf_X6_123 dX6_bestWay_14 ?_
      refine z_top (nI (nC (F.1 0).1)) (eC) ?_
      refine z_imul C dX6_bestWay_17 ?_
      refine z_top (nI ((nC (F.1 0).1) ^ (i + 1))) (pk_mul _ _) ?_
      refine z_istore_n (i := 2) C dX6_bestWay_18 rfl (by decide) ?_
      refine z_iinc C (v := nI (i + 1)) 3 dX6_bestWay_19 rfl (nI_1 _) (by decide) ?_
      refine z_goto C 4 dX6_bestWay_22 (by decide) ?_
      refine z_pick [2, 3, 1, 0] rfl ?_
      exact ih (i + 1) (by omega) (by omega)
set_option maxRecDepth 100000 in
set_option maxHeartbeats 4000000 in
theorem c_X6_bestWay (l : Launch) (E : zE) (F : zF) (hI : XI F) {kk : Nat} (hk1 : 1 ≤ kk) (hk4 : kk ≤ 4) (hm : 0 < nC (F.1 0).1) (hkC : kk ≤ nC (F.1 0).1) : XM l E yX6_bestWay cX6_bestWay 7 (some .int) 7 [.ref (xadr E.2.2.1 (0, 0, 0)), .int (nI kk)] (F) (fun v F2 => v = some (.int (nI (bwN (F.1 0).1 kk ((nC (F.1 0).1) ^ kk)).1)) ∧ thO F F2) := by
  refine XM.mk kq_X6 (Nat.le_of_ble_eq_true rfl) (fun K s C0 => ?_)
  have C := C0.c
  obtain ⟨hz, hw, hsh⟩ := id hI
  obtain ⟨⟨eS, lS⟩, ⟨eC, lC⟩⟩ := id hz
  refine z_iconst C (v := 1) dX6_bestWay_0 rfl ?_
  refine z_istore_n (i := 2) C dX6_bestWay_1 rfl (by decide) ?_
  refine z_iconst C (v := 0) dX6_bestWay_2 rfl ?_
  refine z_istore_n (i := 3) C dX6_bestWay_3 rfl (by decide) ?_
  refine z_pick [2, 3, 1, 0] rfl ?_
  exact lp_X6_bestWay_4 F hI hk1 hk4 hm hkC C0 (kk + 1) 0 (by omega) (by omega)
set_option maxRecDepth 100000 in
set_option maxHeartbeats 4000000 in
theorem c_X6_keepers (l : Launch) (E : zE) (F : zF) (hI : XI F) (k i : Int32) : XM l E yX6_keepers cX6_keepers 4 (some .int) 8 [.ref (xadr E.2.2.1 (0, 0, 0)), .int (k), .int (i)] (F) (xpo F (kKeep (F.1 0).1 k i) (aKeep (F.1 0).1 k.toNatClampNeg i) (thO F)) := by
  refine XM.mk kq_X6 (Nat.le_of_ble_eq_true rfl) (fun K s C0 => ?_)
  have C := C0.c
  obtain ⟨hz, hw, hsh⟩ := id hI
  obtain ⟨⟨eS, lS⟩, ⟨eC, lC⟩⟩ := id hz
  refine z_iload_n C 1 dX6_keepers_0 rfl ?_
  refine z_iconst C (v := 1) dX6_keepers_1 rfl ?_
  refine z_icmp_lt C 32 dX6_keepers_2 (by decide) (fun h2 => ?_) (fun h2 => ?_)
  · skip
    refine z_aload_n C 0 dX6_keepers_32 rfl ?_
    refine z_bipush C (v := (-6)) dX6_keepers_33 rfl ?_
    refine z_callV1 C (c_X6_refuse l E _ _) ⟨by decide, rfl, rfl⟩ rfl rfl q_X6_51 ⟨by decide, by decide⟩ (Nat.le_of_ble_eq_true rfl) dX6_keepers_35 (fun v F9 hp => ?_)
    obtain ⟨rfl, e9⟩ := hp
    rw [e9]
    clear e9 F9
    refine z_iret C0 dX6_keepers_38 ?_
    exact xpo.ref (by simp only [kKeep]; rw [if_pos h2]) (by decide)
  · skip
    refine z_iload_n C 1 dX6_keepers_5 rfl ?_
    refine z_iconst C (v := 4) dX6_keepers_6 rfl ?_
    refine z_icmp_gt C 32 dX6_keepers_7 (by decide) (fun h7 => ?_) (fun h7 => ?_)
    · skip
      refine z_aload_n C 0 dX6_keepers_32 rfl ?_
      refine z_bipush C (v := (-6)) dX6_keepers_33 rfl ?_
      refine z_callV1 C (c_X6_refuse l E _ _) ⟨by decide, rfl, rfl⟩ rfl rfl q_X6_51 ⟨by decide, by decide⟩ (Nat.le_of_ble_eq_true rfl) dX6_keepers_35 (fun v F9 hp => ?_)
      obtain ⟨rfl, e9⟩ := hp
      rw [e9]
      clear e9 F9
      refine z_iret C0 dX6_keepers_38 ?_
      exact xpo.ref (by simp only [kKeep]; rw [if_neg h2, if_pos h7]) (by decide)
    · skip
      refine z_iload_n C 1 dX6_keepers_10 rfl ?_
      refine z_aload_n C 0 dX6_keepers_11 rfl ?_
      refine xg_0_2 C kf_X6_22 dX6_keepers_12 ?_
      refine xg_3 (k := 0) C (by decide) (by decide) kf_X6_116 dX6_keepers_15 ?_
      refine z_icmp_gt C 32 dX6_keepers_18 (by decide) (fun h18 => ?_) (fun h18 => ?_)
      · skip
        refine z_aload_n C 0 dX6_keepers_32 rfl ?_
        refine z_bipush C (v := (-6)) dX6_keepers_33 rfl ?_
        refine z_callV1 C (c_X6_refuse l E _ _) ⟨by decide, rfl, rfl⟩ rfl rfl q_X6_51 ⟨by decide, by decide⟩ (Nat.le_of_ble_eq_true rfl) dX6_keepers_35 (fun v F9 hp => ?_)
        obtain ⟨rfl, e9⟩ := hp
        rw [e9]
        clear e9 F9
        refine z_iret C0 dX6_keepers_38 ?_
        exact xpo.ref (by simp only [kKeep]; rw [if_neg h2, if_neg h7, if_pos h18]) (by decide)
      · skip
        refine z_iload_n C 1 dX6_keepers_21 rfl ?_
        refine z_aload_n C 0 dX6_keepers_22 rfl ?_
        refine xg_0_2 C kf_X6_22 dX6_keepers_23 ?_
        refine xg_3 (k := 1) C (by decide) (by decide) kf_X6_123 dX6_keepers_26 ?_
        refine z_icmp_le C 39 dX6_keepers_29 (by decide) (fun h29 => ?_) (fun h29 => ?_)
        · skip
          obtain ⟨kk, hk1, hk4, ekk⟩ := i_1n (n := 4) h2 h7 (by omega)
          have hkC : kk ≤ nC (F.1 0).1 := by
            rw [eC, ekk] at h29
            exact (nI_leI (by omega) (by omega)).mp h29
          have hm : 0 < nC (F.1 0).1 := by omega
          refine z_iload_n C 2 dX6_keepers_39 rfl ?_
          refine z_iconst C (v := (-1)) dX6_keepers_40 rfl ?_
          refine z_icmp_lt C 49 dX6_keepers_41 (by decide) (fun h41 => ?_) (fun h41 => ?_)
          · skip
            refine z_aload_n C 0 dX6_keepers_49 rfl ?_
            refine z_bipush C (v := (-5)) dX6_keepers_50 rfl ?_
            refine z_callV1 C (c_X6_refuse l E _ _) ⟨by decide, rfl, rfl⟩ rfl rfl q_X6_51 ⟨by decide, by decide⟩ (Nat.le_of_ble_eq_true rfl) dX6_keepers_52 (fun v F9 hp => ?_)
            obtain ⟨rfl, e9⟩ := hp
            rw [e9]
            clear e9 F9
            refine z_iret C0 dX6_keepers_55 ?_
            exact xpo.ref (by simp only [kKeep]; rw [if_neg h2, if_neg h7, if_neg h18, if_neg (Int32.not_lt.mpr h29), if_pos h41]) (by decide)
          · skip
            refine z_iload_n C 2 dX6_keepers_44 rfl ?_
            refine z_iload_n C 1 dX6_keepers_45 rfl ?_
            refine z_icmp_lt C 56 dX6_keepers_46 (by decide) (fun h46 => ?_) (fun h46 => ?_)
            · skip
              have hkk0 : kKeep (F.1 0).1 k i = 0 := by simp only [kKeep]; rw [if_neg h2, if_neg h7, if_neg h18, if_neg (Int32.not_lt.mpr h29), if_neg h41, if_neg (Int32.not_le.mpr h46)]
              subst ekk
              have hpw : (nC (F.1 0).1) ^ kk ≤ 1296 := pw_le lC hk4
              have hb : (bwN (F.1 0).1 kk ((nC (F.1 0).1) ^ kk)).1 < 2000 := Nat.lt_of_le_of_lt bwN_le (by omega)
              refine z_aload_n C 0 dX6_keepers_56 rfl ?_
              refine z_iload_n C 1 dX6_keepers_57 rfl ?_
              refine z_callV1 C (c_X6_bestWay l E F hI hk1 hk4 hm hkC) ⟨by decide, rfl, rfl⟩ rfl rfl q_X6_228 ⟨by decide, by decide⟩ (Nat.le_of_ble_eq_true rfl) dX6_keepers_58 (fun v F9 hp => ?_)
              obtain ⟨rfl, X, e9⟩ := hp
              rw [e9]
              clear e9 F9
              refine z_istore_n (i := 3) C dX6_keepers_61 rfl (by decide) ?_
              refine z_iload_n C 3 dX6_keepers_62 rfl ?_
              refine z_iconst C (v := (-1)) dX6_keepers_63 rfl ?_
              refine z_icmp_ne C 76 dX6_keepers_64 (by decide) (fun h64 => ?_) (fun h64 => ?_)
              · skip
                obtain ⟨ii, hii, rfl⟩ := i_rng (n := kk) (i_m1 h41 h64) h46 (by omega)
                refine z_aload_n C 1 dX6_keepers_76 rfl ?_
                refine z_iload_n C 0 dX6_keepers_77 rfl ?_
                refine z_iload_n C 2 dX6_keepers_78 rfl ?_
                refine z_iload_n C 3 dX6_keepers_79 rfl ?_
                refine z_callV3 C (c_X6_keeperIn l E (sG F 1 X) (hI.th X) hb hk1 hk4 hm hii) ⟨by decide, rfl, rfl⟩ rfl rfl q_X6_234 ⟨by decide, by decide⟩ (Nat.le_of_ble_eq_true rfl) dX6_keepers_80 (fun v F9 hp => ?_)
                obtain ⟨rfl, e9⟩ := hp
                rw [e9]
                clear e9 F9
                rw [sG_ne F X (show (0 : Nat) ≠ 1 by decide)]
                refine z_iret C0 dX6_keepers_83 ?_
                exact xpo.ok hkk0 (by rw [nI_clamp (by omega)]; unfold aKeep; rw [if_neg h64, nI_clamp (by omega)]) ⟨_, rfl⟩
              · skip
                refine z_aload_n C 1 dX6_keepers_67 rfl ?_
                refine z_iload_n C 0 dX6_keepers_68 rfl ?_
                refine z_iload_n C 2 dX6_keepers_69 rfl ?_
                refine z_callV2 C (c_X6_dealsOfWay l E (sG F 1 X) (hI.th X) hb hk1 hk4 hm hkC) ⟨by decide, rfl, rfl⟩ rfl rfl q_X6_231 ⟨by decide, by decide⟩ (Nat.le_of_ble_eq_true rfl) dX6_keepers_70 (fun v F9 hp => ?_)
                obtain ⟨rfl, T2, e9⟩ := hp
                rw [e9, sG_sG]
                clear e9 F9
                rw [sG_ne F X (show (0 : Nat) ≠ 1 by decide)]
                refine z_goto C 83 dX6_keepers_73 (by decide) ?_
                refine z_iret C0 dX6_keepers_83 ?_
                exact xpo.ok hkk0 (by rw [nI_clamp (by omega)]; unfold aKeep; rw [if_pos h64]) ⟨_, rfl⟩
            · skip
              refine z_aload_n C 0 dX6_keepers_49 rfl ?_
              refine z_bipush C (v := (-5)) dX6_keepers_50 rfl ?_
              refine z_callV1 C (c_X6_refuse l E _ _) ⟨by decide, rfl, rfl⟩ rfl rfl q_X6_51 ⟨by decide, by decide⟩ (Nat.le_of_ble_eq_true rfl) dX6_keepers_52 (fun v F9 hp => ?_)
              obtain ⟨rfl, e9⟩ := hp
              rw [e9]
              clear e9 F9
              refine z_iret C0 dX6_keepers_55 ?_
              exact xpo.ref (by simp only [kKeep]; rw [if_neg h2, if_neg h7, if_neg h18, if_neg (Int32.not_lt.mpr h29), if_neg h41, if_pos (Int32.not_lt.mp h46)]) (by decide)
        · skip
          refine z_aload_n C 0 dX6_keepers_32 rfl ?_
          refine z_bipush C (v := (-6)) dX6_keepers_33 rfl ?_
          refine z_callV1 C (c_X6_refuse l E _ _) ⟨by decide, rfl, rfl⟩ rfl rfl q_X6_51 ⟨by decide, by decide⟩ (Nat.le_of_ble_eq_true rfl) dX6_keepers_35 (fun v F9 hp => ?_)
          obtain ⟨rfl, e9⟩ := hp
          rw [e9]
          clear e9 F9
          refine z_iret C0 dX6_keepers_38 ?_
          exact xpo.ref (by simp only [kKeep]; rw [if_neg h2, if_neg h7, if_neg h18, if_pos (Int32.not_le.mp h29)]) (by decide)
