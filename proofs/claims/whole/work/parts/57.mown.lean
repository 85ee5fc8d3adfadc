/-! the reference: what stands otherwise -/
def tTrM (M : zM) (s n : Int32) : Int32 := if wtd M s = 0 then (if n < 0 then -4 else if M.2.2.1 23 s.toNatClampNeg < n then -5 else 0) else wtd M s
theorem wtd_in {M : zM} {s : Int32} (h : wtd M s = 0) : ∃ j, j < 8 ∧ s = nI j := by
  unfold wtd at h
  split at h
  · exact inR_of (n := 8) (by assumption) (by omega)
  · exact absurd h (by decide)
theorem tTrM_cs (M : zM) (s n : Int32) : tTrM M s n = 0 ∨ tTrM M s n = -1 ∨ tTrM M s n = -2 ∨ tTrM M s n = -3 ∨ tTrM M s n = -4 ∨ tTrM M s n = -5 := by
  have hw : wtd M s = 0 ∨ wtd M s = -1 ∨ wtd M s = -2 ∨ wtd M s = -3 := by
    unfold wtd
    split
    · split
      · exact Or.inr (Or.inr (Or.inl rfl))
      · split
        · exact Or.inr (Or.inr (Or.inr rfl))
        · exact Or.inl rfl
    · exact Or.inr (Or.inl rfl)
  unfold tTrM
  by_cases h : wtd M s = 0
  · rw [if_pos h]
    split
    · exact Or.inr (Or.inr (Or.inr (Or.inr (Or.inl rfl))))
    · split
      · exact Or.inr (Or.inr (Or.inr (Or.inr (Or.inr rfl))))
      · exact Or.inl rfl
  · rw [if_neg h]
    rcases hw with e | e | e | e
    · exact absurd e h
    · exact Or.inr (Or.inl e)
    · exact Or.inr (Or.inr (Or.inl e))
    · exact Or.inr (Or.inr (Or.inr (Or.inl e)))
theorem tTrM_k {M : zM} {s n : Int32} (h : ¬ tTrM M s n = 0) : ∃ k, k < 8 ∧ -(tTrM M s n) = nI k ∧ (refK (tTrM M s n)).toNatClampNeg = k ∧ (refK (tTrM M s n - 10)).toNatClampNeg = k := by
  rcases tTrM_cs M s n with e | e | e | e | e | e
  · exact absurd e h
  · rw [e]; exact ⟨1, by omega, by decide, by decide, by decide⟩
  · rw [e]; exact ⟨2, by omega, by decide, by decide, by decide⟩
  · rw [e]; exact ⟨3, by omega, by decide, by decide, by decide⟩
  · rw [e]; exact ⟨4, by omega, by decide, by decide, by decide⟩
  · rw [e]; exact ⟨5, by omega, by decide, by decide, by decide⟩
theorem tTrM_0 {M : zM} (hsz : ∀ j, j < 8 → M.2.2.1 21 j = 1 → ∃ n, n ≤ 160 ∧ M.2.2.1 23 j = nI n) (h012 : ∀ j, j < 8 → M.2.2.1 21 j = 0 ∨ M.2.2.1 21 j = 1 ∨ M.2.2.1 21 j = 2) {s n : Int32} (h : tTrM M s n = 0) : ∃ j nn len, j < 8 ∧ s = nI j ∧ n = nI nn ∧ nn ≤ len ∧ len ≤ 160 := by
  unfold tTrM at h
  split at h
  · rename_i h0
    obtain ⟨j, hj, rfl⟩ := wtd_in h0
    have ej : (nI j).toNatClampNeg = j := nI_clamp (by omega)
    have h1 : M.2.2.1 21 j = 1 := by
      unfold wtd at h0
      rw [if_pos (show inR (nI j) 8 = true from inR_nI (n := 8) hj (by omega)), ej] at h0
      rcases h012 j hj with e | e | e
      · rw [e] at h0; exact absurd h0 (by decide)
      · exact e
      · rw [e] at h0; exact absurd h0 (by decide)
    obtain ⟨len, hl, el⟩ := hsz j hj h1
    rw [ej] at h
    split at h
    · exact absurd h (by decide)
    · rename_i h2
      split at h
      · exact absurd h (by decide)
      · rename_i h3
        rw [el] at h3
        obtain ⟨q, hq, rfl⟩ := inT_of (n := len) (inT_t h2 (Int32.not_lt.mp h3)) (by omega)
        exact ⟨j, q, len, hj, rfl, rfl, hq, hl⟩
  · rename_i h0; exact absurd h h0
theorem tTrM_10 {M : zM} {s n : Int32} (h : ¬ tTrM M s n = 0) : ¬ tTrM M s n - 10 = 0 := by
  rcases tTrM_cs M s n with e | e | e | e | e | e
  · exact absurd e h
  all_goals (rw [e]; decide)
def mRs (M M2 : zM) : Prop := (∀ k, (k = 8 ∨ k = 46 ∨ k = 47) → M2.2.1 k = M.2.1 k) ∧ (∀ k, (k = 9 ∨ (21 ≤ k ∧ k ≤ 24) ∨ k = 27 ∨ k = 28 ∨ k = 36 ∨ k = 45) → M2.2.2.1 k = M.2.2.1 k) ∧ M2.2.2.2 25 = M.2.2.2 25
theorem mRs_hp {M : zM} {g : zGc} {B f : Nat → Int32} : mRs M (mB (mT M 37 f) g B) := by
  refine ⟨fun k hk => rfl, fun k hk => ?_, rfl⟩
  show va_up (va_up M.2.2.1 37 f) 38 B k = _
  rw [va_up_ne _ _ (show k ≠ 38 by omega), va_up_ne _ _ (show k ≠ 37 by omega)]
/-- the same where a refusal may leave what nobody asks for otherwise -/
def mpt (M : zM) (k ans : Int32) (P : zM → Prop) : Option Value → zM → Prop := fun v M2 => v = some (.int (if k = 0 then ans else k)) ∧ (k = 0 → P M2) ∧ (¬ k = 0 → ∃ M3, mSm M M3 ∧ M2 = rfM M3 k)
theorem mpt.ref {M M3 : zM} {k ans c : Int32} {P : zM → Prop} (hs : mSm M M3) (hk : k = c) (hc : ¬ c = 0) : mpt M k ans P (some (.int c)) (rfM M3 c) := by
  subst hk
  exact ⟨by rw [if_neg hc], fun h => absurd h hc, fun _ => ⟨M3, hs, rfl⟩⟩
theorem mpt.ok {M M2 : zM} {k ans r : Int32} {P : zM → Prop} (hk : k = 0) (hr : r = ans) (hP : P M2) : mpt M k ans P (some (.int r)) M2 := ⟨by rw [if_pos hk, hr], fun _ => hP, fun h => absurd hk h⟩
theorem ofC_in (g : zGc) (w : Int32) (hz : (∃ m, m ≤ 6 ∧ g.1 1 = nI m) := by exact ⟨_, lC, eC⟩) : ofC g w = inR (w - 10) (g.1 1) := by
  obtain ⟨m, hm, em⟩ := hz
  have e10 : (10 : Int32).toInt = 10 := rfl
  have e0 : (0 : Int32).toInt = 0 := rfl
  have hr := i_ran w
  unfold ofC inR
  by_cases h : w < 10
  · rw [decide_eq_true h, em]
    have h2 := h
    rw [i_lt, e10] at h2
    by_cases h3 : w.toInt - 10 < -2147483648
    · have h4 : ¬ w - 10 < nI m := by
        rw [i_lt, nI_toInt (by omega), Int32.toInt_sub, e10]
        simp only [Int.bmod]
        split <;> omega
      rw [decide_eq_false h4, Bool.and_false, Bool.and_false]
    · have h4 : w - 10 < 0 := by rw [i_lt, i_sub (by rw [e10]; omega) (by rw [e10]; omega), e10, e0]; omega
      rw [decide_eq_true h4]
  · rw [decide_eq_false h, decide_eq_false (i_m10 h)]
theorem ne6 {x : Int32} {m : Nat} (e : x = nI m) (hm : m ≤ 6) (h : ¬ x = 6) : m < 6 := by
  rcases Nat.lt_or_ge m 6 with q | q
  · exact q
  · exact absurd (e.trans (by rw [show m = 6 by omega]; rfl)) h
theorem lt6_ne {x : Int32} {m : Nat} (e : x = nI m) (hm : m ≤ 6) (h : ¬ x = 6) : x < 6 := by
  rw [e]; exact nI_lt (b := 6) (ne6 e hm h) (by omega)
theorem ask_w {w v : Int32} (h0 : ¬ w = 0) (h1 : ¬ w = 1) : kAsk w v = -6 := by unfold kAsk; rw [if_neg (fun z => h0 z.1), if_neg (fun z => h1 z.1)]
theorem ask_v {w v : Int32} (h0 : inT v 99 = false) (h1 : inT v 9999 = false) : kAsk w v = -6 := by unfold kAsk; rw [if_neg (fun z => absurd (h0.symm.trans z.2) (by decide)), if_neg (fun z => absurd (h1.symm.trans z.2) (by decide))]
theorem ask_0 {v : Int32} (h0 : inT v 99 = false) : kAsk 0 v = -6 := by unfold kAsk; rw [if_neg (fun z => absurd (h0.symm.trans z.2) (by decide)), if_neg (fun z => absurd z.1 (by decide))]
theorem ask_1 {v : Int32} (h0 : inT v 9999 = false) : kAsk 1 v = -6 := by unfold kAsk; rw [if_neg (fun z => absurd z.1 (by decide)), if_neg (fun z => absurd (h0.symm.trans z.2) (by decide))]
set_option maxRecDepth 100000 in
set_option maxHeartbeats 4000000 in
theorem c_X7_barsOf (l : Launch) (E : zE) (M : zM) (sh n : Int32) : MM l E yX7_barsOf cX7_barsOf 4 (some .int) 3 [.ref (madr E.2.2.1 (0, 0, 0)), .int (sh), .int (n)] (M) (fun v M2 => v = some (.int (tTrM M sh n)) ∧ M2 = M) := by
  refine MM.mk kq_X7 (Nat.le_of_ble_eq_true rfl) (fun K s C0 => ?_)
  have C := C0.c
  refine z_aload_n C 0 dX7_barsOf_0 rfl ?_
  refine z_iload_n C 1 dX7_barsOf_1 rfl ?_
  refine z_callV1 C (c_X7_wanted l E _ _) ⟨rfl, rfl⟩ rfl rfl q_X7_207 ⟨by decide, by decide⟩ (Nat.le_of_ble_eq_true rfl) dX7_barsOf_2 (fun v F9 hp => ?_)
  obtain ⟨rfl, e9⟩ := hp
  rw [e9]
  clear e9 F9
  refine z_istore_n (i := 3) C dX7_barsOf_5 rfl (by decide) ?_
  refine z_iload_n C 0 dX7_barsOf_6 rfl ?_
  refine z_if_eq C 12 dX7_barsOf_7 (by decide) (fun h7 => ?_) (fun h7 => ?_)
  · skip
    obtain ⟨j, hj, rfl⟩ := wtd_in h7
    have ej : (nI j).toNatClampNeg = j := nI_clamp (by omega)
    refine z_iload_n C 3 dX7_barsOf_12 rfl ?_
    refine z_if_ge C 21 dX7_barsOf_13 (by decide) (fun h13 => ?_) (fun h13 => ?_)
    · skip
      refine z_iload_n C 3 dX7_barsOf_21 rfl ?_
      refine z_aload_n C 1 dX7_barsOf_22 rfl ?_
      refine mg_23 C dX7_barsOf_23 ?_
      refine z_iload_n C 2 dX7_barsOf_26 rfl ?_
      refine ml_23 C j rfl (by first | assumption | omega) dX7_barsOf_27 ?_
      refine z_icmp_le C 36 dX7_barsOf_28 (by decide) (fun h28 => ?_) (fun h28 => ?_)
      · skip
        refine z_iconst C (v := 0) dX7_barsOf_36 rfl ?_
        refine z_iret C0 dX7_barsOf_37 ?_
        refine ⟨?_, rfl⟩
        unfold tTrM
        rw [if_pos h7, if_neg (Int32.not_lt.mpr h13), ej, if_neg (Int32.not_lt.mpr h28)]
      · skip
        refine z_bipush C (v := (-5)) dX7_barsOf_31 rfl ?_
        refine z_goto C 37 dX7_barsOf_33 (by decide) ?_
        refine z_iret C0 dX7_barsOf_37 ?_
        refine ⟨?_, rfl⟩
        unfold tTrM
        rw [if_pos h7, if_neg (Int32.not_lt.mpr h13), ej, if_pos (Int32.not_le.mp h28)]
    · skip
      refine z_bipush C (v := (-4)) dX7_barsOf_16 rfl ?_
      refine z_goto C 37 dX7_barsOf_18 (by decide) ?_
      refine z_iret C0 dX7_barsOf_37 ?_
      refine ⟨?_, rfl⟩
      unfold tTrM
      rw [if_pos h7, if_pos (Int32.not_le.mp h13)]
  · skip
    refine z_iload_n C 0 dX7_barsOf_10 rfl ?_
    refine z_iret C0 dX7_barsOf_11 ?_
    refine ⟨?_, rfl⟩
    unfold tTrM
    rw [if_neg h7]
set_option maxRecDepth 100000 in
set_option maxHeartbeats 4000000 in
theorem c_X7_judge (l : Launch) (E : zE) (M : zM) (hz : gz M.1) {N : Nat} (h : rg N M.1) (hN : N ≤ 100000000) (hsz : ∀ j, j < 8 → M.2.2.1 21 j = 1 → ∃ n, n ≤ 160 ∧ M.2.2.1 23 j = nI n) (h012 : ∀ j, j < 8 → M.2.2.1 21 j = 0 ∨ M.2.2.1 21 j = 1 ∨ M.2.2.1 21 j = 2) (sh n : Int32) : MM l E yX7_judge cX7_judge 5 (some .int) 7 [.ref (madr E.2.2.1 (0, 0, 0)), .int (sh), .int (n)] (M) (mpo M (kJudge (tTrM M sh n)) (oI (wrA M.1 (dM M sh.toNatClampNeg) n.toNatClampNeg).1) (mSm M)) := by
  refine MM.mk kq_X7 (Nat.le_of_ble_eq_true rfl) (fun K s C0 => ?_)
  have C := C0.c
  obtain ⟨⟨eS, lS⟩, ⟨eC, lC⟩⟩ := id hz
  have hsm : sms M.1 := h.sm (by omega)
  refine z_aload_n C 0 dX7_judge_0 rfl ?_
  refine z_iload_n C 1 dX7_judge_1 rfl ?_
  refine z_iload_n C 2 dX7_judge_2 rfl ?_
  refine z_callV2 C (c_X7_barsOf l E _ _ _) ⟨rfl, rfl⟩ rfl rfl q_X7_284 ⟨by decide, by decide⟩ (Nat.le_of_ble_eq_true rfl) dX7_judge_3 (fun v F9 hp => ?_)
  obtain ⟨rfl, e9⟩ := hp
  rw [e9]
  clear e9 F9
  refine z_istore_n (i := 3) C dX7_judge_6 rfl (by decide) ?_
  refine z_iload_n C 0 dX7_judge_7 rfl ?_
  refine z_if_eq C 17 dX7_judge_8 (by decide) (fun h8 => ?_) (fun h8 => ?_)
  · skip
    obtain ⟨j, nn, len, hj, rfl, rfl, hnl, hlen⟩ := tTrM_0 hsz h012 h8
    have ej : (nI j).toNatClampNeg = j := nI_clamp (by omega)
    have en : (nI nn).toNatClampNeg = nn := nI_clamp (by omega)
    refine z_aload_n C 1 dX7_judge_17 rfl ?_
    refine z_aload_n C 1 dX7_judge_18 rfl ?_
    refine mg_37 C dX7_judge_19 ?_
    refine z_iconst C (v := 0) dX7_judge_22 rfl ?_
    refine z_callV2 C (c_allF l E _ (k2 := 37) (by omega)) ⟨rfl, rfl⟩ rfl rfl q_X7_210 ⟨by decide, by decide⟩ (Nat.le_of_ble_eq_true rfl) dX7_judge_23 (fun v F9 hp => ?_)
    obtain ⟨rfl, e9⟩ := hp
    rw [e9]
    clear e9 F9
    refine z_aload_n C 1 dX7_judge_26 rfl ?_
    refine z_iload_n C 2 dX7_judge_27 rfl ?_
    refine z_iload_n C 3 dX7_judge_28 rfl ?_
    refine z_callV2 C (c_X7_wrongIn l E (mT M 37 (pkN (M.2.2.1 37) M.1 74)) hz h hN hj (by omega)) ⟨rfl, rfl⟩ rfl rfl q_X7_287 ⟨by decide, by decide⟩ (Nat.le_of_ble_eq_true rfl) dX7_judge_29 (fun v F9 hp => ?_)
    obtain ⟨rfl, B, e9⟩ := hp
    rw [e9]
    clear e9 F9
    have eW : wrA (mT M 37 (pkN (M.2.2.1 37) M.1 74)).1 (dM (mT M 37 (pkN (M.2.2.1 37) M.1 74)) j) nn = wrA M.1 (dM M j) nn := rfl
    rw [eW]
    have hwl : ∀ {w}, (wrA M.1 (dM M j) nn).1 = some w → w < nn + 1 := fun hw => wrA_lt hw
    refine z_istore C dX7_judge_32 (by decide) ?_
    refine z_aload_n C 2 dX7_judge_34 rfl ?_
    refine z_callV0 C (c_X7_takesBack l E _ (g := M.1) hz (fun q hq => pkN_at hq)) ⟨rfl, rfl⟩ rfl rfl q_X7_262 ⟨by decide, by decide⟩ (Nat.le_of_ble_eq_true rfl) dX7_judge_35 (fun v F9 hp => ?_)
    obtain ⟨rfl, g2, e9, hg2⟩ := hp
    rw [e9]
    clear e9 F9
    refine z_iload C 0 dX7_judge_38 rfl ?_
    refine z_iret C0 dX7_judge_40 ?_
    exact mpo.ok (by unfold kJudge; rw [if_pos h8]) (by rw [ej, en]) (mSm_hp hg2)
  · skip
    obtain ⟨k0, hk8, hb1, hb2, hb3⟩ := tTrM_k h8
    refine z_aload_n C 1 dX7_judge_11 rfl ?_
    refine z_iload_n C 0 dX7_judge_12 rfl ?_
    refine z_callV1 C (c_X7_noTen l E _ (tTrM M sh n) k0 hk8 hb1 hb3) ⟨rfl, rfl⟩ rfl rfl q_X7_145 ⟨by decide, by decide⟩ (Nat.le_of_ble_eq_true rfl) dX7_judge_13 (fun v F9 hp => ?_)
    obtain ⟨rfl, e9⟩ := hp
    rw [e9]
    clear e9 F9
    refine z_iret C0 dX7_judge_16 ?_
    exact mpo.ref (by unfold kJudge; rw [if_neg h8, Int32.sub_eq_add_neg]; rw [Int32.add_comm]) (tTrM_10 h8)
set_option maxRecDepth 100000 in
set_option maxHeartbeats 4000000 in
theorem c_X7_told (l : Launch) (E : zE) (M : zM) (hz : gz M.1) {N : Nat} (h : rg N M.1) (hN : N ≤ 100000000) (hsz : ∀ j, j < 8 → M.2.2.1 21 j = 1 → ∃ n, n ≤ 160 ∧ M.2.2.1 23 j = nI n) (h012 : ∀ j, j < 8 → M.2.2.1 21 j = 0 ∨ M.2.2.1 21 j = 1 ∨ M.2.2.1 21 j = 2) (sh n w : Int32) : MM l E yX7_told cX7_told 8 (some .int) 7 [.ref (madr E.2.2.1 (0, 0, 0)), .int (sh), .int (n), .int (w)] (M) (mpt M (kTold M.1 (tTrM M sh n) w (wrA M.1 (dM M sh.toNatClampNeg) n.toNatClampNeg).1) (aTold M.1 (wrA M.1 (dM M sh.toNatClampNeg) n.toNatClampNeg).2.1 w) (mSm M)) := by
  refine MM.mk kq_X7 (Nat.le_of_ble_eq_true rfl) (fun K s C0 => ?_)
  have C := C0.c
  obtain ⟨⟨eS, lS⟩, ⟨eC, lC⟩⟩ := id hz
  have hsm : sms M.1 := h.sm (by omega)
  refine z_aload_n C 0 dX7_told_0 rfl ?_
  refine z_iload_n C 1 dX7_told_1 rfl ?_
  refine z_iload_n C 2 dX7_told_2 rfl ?_
  refine z_callV2 C (c_X7_barsOf l E _ _ _) ⟨rfl, rfl⟩ rfl rfl q_X7_284 ⟨by decide, by decide⟩ (Nat.le_of_ble_eq_true rfl) dX7_told_3 (fun v F9 hp => ?_)
  obtain ⟨rfl, e9⟩ := hp
  rw [e9]
  clear e9 F9
  refine z_istore C dX7_told_6 (by decide) ?_
  refine z_iload C 0 dX7_told_8 rfl ?_
  refine z_if_ne C 37 dX7_told_10 (by decide) (fun h10 => ?_) (fun h10 => ?_)
  · skip
    refine z_iload C 0 dX7_told_37 rfl ?_
    refine z_if_eq C 49 dX7_told_39 (by decide) (fun h39 => ?_) (fun h39 => ?_)
    · exact absurd h39 h10
    · skip
      obtain ⟨k0, hk8, hb1, hb2, hb3⟩ := tTrM_k h10
      refine z_aload_n C 1 dX7_told_42 rfl ?_
      refine z_iload C 0 dX7_told_43 rfl ?_
      refine z_callV1 C (c_X7_no l E _ (tTrM M sh n) k0 hk8 hb1 hb2) ⟨rfl, rfl⟩ rfl rfl q_X7_124 ⟨by decide, by decide⟩ (Nat.le_of_ble_eq_true rfl) dX7_told_45 (fun v F9 hp => ?_)
      obtain ⟨rfl, e9⟩ := hp
      rw [e9]
      clear e9 F9
      refine z_iret C0 dX7_told_48 ?_
      exact mpt.ref (mSm.rf M) (by unfold kTold; rw [if_pos h10]) h10
  · skip
    refine z_iload_n C 4 dX7_told_13 rfl ?_
    refine z_if_eq C 37 dX7_told_14 (by decide) (fun h14 => ?_) (fun h14 => ?_)
    · skip
      refine z_iload C 0 dX7_told_37 rfl ?_
      refine z_if_eq C 49 dX7_told_39 (by decide) (fun h39 => ?_) (fun h39 => ?_)
      · skip
        obtain ⟨j, nn, len, hj, rfl, rfl, hnl, hlen⟩ := tTrM_0 hsz h012 h10
        have ej : (nI j).toNatClampNeg = j := nI_clamp (by omega)
        have en : (nI nn).toNatClampNeg = nn := nI_clamp (by omega)
        refine z_aload_n C 1 dX7_told_49 rfl ?_
        refine z_aload_n C 1 dX7_told_50 rfl ?_
        refine mg_37 C dX7_told_51 ?_
        refine z_iconst C (v := 0) dX7_told_54 rfl ?_
        refine z_callV2 C (c_allF l E _ (k2 := 37) (by omega)) ⟨rfl, rfl⟩ rfl rfl q_X7_210 ⟨by decide, by decide⟩ (Nat.le_of_ble_eq_true rfl) dX7_told_55 (fun v F9 hp => ?_)
        obtain ⟨rfl, e9⟩ := hp
        rw [e9]
        clear e9 F9
        refine z_aload_n C 1 dX7_told_58 rfl ?_
        refine mg_6 C dX7_told_59 ?_
        refine z_istore C dX7_told_62 (by decide) ?_
        refine z_aload_n C 2 dX7_told_64 rfl ?_
        refine z_iload_n C 3 dX7_told_65 rfl ?_
        refine z_iload_n C 4 dX7_told_66 rfl ?_
        refine z_callV2 C (c_X7_wrongIn l E (mT M 37 (pkN (M.2.2.1 37) M.1 74)) hz h hN hj (by omega)) ⟨rfl, rfl⟩ rfl rfl q_X7_287 ⟨by decide, by decide⟩ (Nat.le_of_ble_eq_true rfl) dX7_told_67 (fun v F9 hp => ?_)
        obtain ⟨rfl, B, e9⟩ := hp
        rw [e9]
        clear e9 F9
        have eW : wrA (mT M 37 (pkN (M.2.2.1 37) M.1 74)).1 (dM (mT M 37 (pkN (M.2.2.1 37) M.1 74)) j) nn = wrA M.1 (dM M j) nn := rfl
        rw [eW]
        have hwl : ∀ {w}, (wrA M.1 (dM M j) nn).1 = some w → w < nn + 1 := fun hw => wrA_lt hw
        refine z_istore C dX7_told_70 (by decide) ?_
        refine z_iload_n C 6 dX7_told_72 rfl ?_
        refine z_if_ne C 86 dX7_told_73 (by decide) (fun h73 => ?_) (fun h73 => ?_)
        · exact absurd h14 h73
        · skip
          refine z_aload_n C 3 dX7_told_76 rfl ?_
          refine mg_6 C dX7_told_77 ?_
          refine z_iload C 1 dX7_told_80 rfl ?_
          refine z_isub C dX7_told_82 ?_
          refine z_goto C 107 dX7_told_83 (by decide) ?_
          refine z_istore C dX7_told_107 (by decide) ?_
          refine z_aload_n C 4 dX7_told_109 rfl ?_
          refine z_callV0 C (c_X7_takesBack l E _ (g := M.1) hz (fun q hq => pkN_at hq)) ⟨rfl, rfl⟩ rfl rfl q_X7_262 ⟨by decide, by decide⟩ (Nat.le_of_ble_eq_true rfl) dX7_told_110 (fun v F9 hp => ?_)
          obtain ⟨rfl, g2, e9, hg2⟩ := hp
          rw [e9]
          clear e9 F9
          refine z_iload C 1 dX7_told_113 rfl ?_
          refine z_iconst C (v := (-1)) dX7_told_115 rfl ?_
          refine z_icmp_ne C 124 dX7_told_116 (by decide) (fun h116 => ?_) (fun h116 => ?_)
          · skip
            refine z_aload_n C 4 dX7_told_124 rfl ?_
            refine z_bipush C (v := (-6)) dX7_told_125 rfl ?_
            refine z_callV1 C (c_X7_no l E _ (-6) 6 (by decide) (by decide) (by decide)) ⟨rfl, rfl⟩ rfl rfl q_X7_124 ⟨by decide, by decide⟩ (Nat.le_of_ble_eq_true rfl) dX7_told_127 (fun v F9 hp => ?_)
            obtain ⟨rfl, e9⟩ := hp
            rw [e9]
            clear e9 F9
            refine z_iret C0 dX7_told_130 ?_
            have hn : ¬ (wrA M.1 (dM M j) nn).1 = none := fun z => h116 (by rw [z]; rfl)
            exact mpt.ref (mSm_hp hg2) (by unfold kTold; rw [if_neg (fun z => z h10), if_neg (fun z => z (Or.inl h14)), ej, en]; rw [if_neg hn]) (by decide)
          · skip
            refine z_iload C 0 dX7_told_119 rfl ?_
            refine z_goto C 130 dX7_told_121 (by decide) ?_
            refine z_iret C0 dX7_told_130 ?_
            have hn : (wrA M.1 (dM M j) nn).1 = none := oI_m1 hwl h116 (by omega)
            exact mpt.ok (by unfold kTold; rw [if_neg (fun z => z h10), if_neg (fun z => z (Or.inl h14)), ej, en]; rw [if_pos hn]) (by rw [ej, en]; unfold aTold; rw [if_neg (by rw [h14, ofC_f1 (by decide)]; decide), if_pos h14]; rfl) (mSm_hp hg2)
      · exact absurd h10 h39
    · skip
      refine z_iload_n C 4 dX7_told_17 rfl ?_
      refine z_iconst C (v := 1) dX7_told_18 rfl ?_
      refine z_icmp_eq C 37 dX7_told_19 (by decide) (fun h19 => ?_) (fun h19 => ?_)
      · skip
        refine z_iload C 0 dX7_told_37 rfl ?_
        refine z_if_eq C 49 dX7_told_39 (by decide) (fun h39 => ?_) (fun h39 => ?_)
        · skip
          obtain ⟨j, nn, len, hj, rfl, rfl, hnl, hlen⟩ := tTrM_0 hsz h012 h10
          have ej : (nI j).toNatClampNeg = j := nI_clamp (by omega)
          have en : (nI nn).toNatClampNeg = nn := nI_clamp (by omega)
          refine z_aload_n C 1 dX7_told_49 rfl ?_
          refine z_aload_n C 1 dX7_told_50 rfl ?_
          refine mg_37 C dX7_told_51 ?_
          refine z_iconst C (v := 0) dX7_told_54 rfl ?_
          refine z_callV2 C (c_allF l E _ (k2 := 37) (by omega)) ⟨rfl, rfl⟩ rfl rfl q_X7_210 ⟨by decide, by decide⟩ (Nat.le_of_ble_eq_true rfl) dX7_told_55 (fun v F9 hp => ?_)
          obtain ⟨rfl, e9⟩ := hp
          rw [e9]
          clear e9 F9
          refine z_aload_n C 1 dX7_told_58 rfl ?_
          refine mg_6 C dX7_told_59 ?_
          refine z_istore C dX7_told_62 (by decide) ?_
          refine z_aload_n C 2 dX7_told_64 rfl ?_
          refine z_iload_n C 3 dX7_told_65 rfl ?_
          refine z_iload_n C 4 dX7_told_66 rfl ?_
          refine z_callV2 C (c_X7_wrongIn l E (mT M 37 (pkN (M.2.2.1 37) M.1 74)) hz h hN hj (by omega)) ⟨rfl, rfl⟩ rfl rfl q_X7_287 ⟨by decide, by decide⟩ (Nat.le_of_ble_eq_true rfl) dX7_told_67 (fun v F9 hp => ?_)
          obtain ⟨rfl, B, e9⟩ := hp
          rw [e9]
          clear e9 F9
          have eW : wrA (mT M 37 (pkN (M.2.2.1 37) M.1 74)).1 (dM (mT M 37 (pkN (M.2.2.1 37) M.1 74)) j) nn = wrA M.1 (dM M j) nn := rfl
          rw [eW]
          have hwl : ∀ {w}, (wrA M.1 (dM M j) nn).1 = some w → w < nn + 1 := fun hw => wrA_lt hw
          refine z_istore C dX7_told_70 (by decide) ?_
          refine z_iload_n C 6 dX7_told_72 rfl ?_
          refine z_if_ne C 86 dX7_told_73 (by decide) (fun h73 => ?_) (fun h73 => ?_)
          · skip
            refine z_iload_n C 6 dX7_told_86 rfl ?_
            refine z_iconst C (v := 1) dX7_told_87 rfl ?_
            refine z_icmp_ne C 98 dX7_told_88 (by decide) (fun h88 => ?_) (fun h88 => ?_)
            · exact absurd h19 h88
            · skip
              refine z_aload_n C 3 dX7_told_91 rfl ?_
              refine mg_3 C dX7_told_92 ?_
              refine z_goto C 107 dX7_told_95 (by decide) ?_
              refine z_istore C dX7_told_107 (by decide) ?_
              refine z_aload_n C 4 dX7_told_109 rfl ?_
              refine z_callV0 C (c_X7_takesBack l E _ (g := M.1) hz (fun q hq => pkN_at hq)) ⟨rfl, rfl⟩ rfl rfl q_X7_262 ⟨by decide, by decide⟩ (Nat.le_of_ble_eq_true rfl) dX7_told_110 (fun v F9 hp => ?_)
              obtain ⟨rfl, g2, e9, hg2⟩ := hp
              rw [e9]
              clear e9 F9
              refine z_iload C 1 dX7_told_113 rfl ?_
              refine z_iconst C (v := (-1)) dX7_told_115 rfl ?_
              refine z_icmp_ne C 124 dX7_told_116 (by decide) (fun h116 => ?_) (fun h116 => ?_)
              · skip
                refine z_aload_n C 4 dX7_told_124 rfl ?_
                refine z_bipush C (v := (-6)) dX7_told_125 rfl ?_
                refine z_callV1 C (c_X7_no l E _ (-6) 6 (by decide) (by decide) (by decide)) ⟨rfl, rfl⟩ rfl rfl q_X7_124 ⟨by decide, by decide⟩ (Nat.le_of_ble_eq_true rfl) dX7_told_127 (fun v F9 hp => ?_)
                obtain ⟨rfl, e9⟩ := hp
                rw [e9]
                clear e9 F9
                refine z_iret C0 dX7_told_130 ?_
                have hn : ¬ (wrA M.1 (dM M j) nn).1 = none := fun z => h116 (by rw [z]; rfl)
                exact mpt.ref (mSm_hp hg2) (by unfold kTold; rw [if_neg (fun z => z h10), if_neg (fun z => z (Or.inr (Or.inl h19))), ej, en]; rw [if_neg hn]) (by decide)
              · skip
                refine z_iload C 0 dX7_told_119 rfl ?_
                refine z_goto C 130 dX7_told_121 (by decide) ?_
                refine z_iret C0 dX7_told_130 ?_
                have hn : (wrA M.1 (dM M j) nn).1 = none := oI_m1 hwl h116 (by omega)
                exact mpt.ok (by unfold kTold; rw [if_neg (fun z => z h10), if_neg (fun z => z (Or.inr (Or.inl h19))), ej, en]; rw [if_pos hn]) (by rw [ej, en]; unfold aTold; rw [if_neg (by rw [h19, ofC_f1 (by decide)]; decide), if_neg h14]; rfl) (mSm_hp hg2)
          · exact absurd h73 h14
        · exact absurd h10 h39
      · skip
        refine z_aload_n C 1 dX7_told_22 rfl ?_
        refine z_iload_n C 4 dX7_told_23 rfl ?_
        refine z_bipush C (v := 10) dX7_told_24 rfl ?_
        refine z_isub C dX7_told_26 ?_
        refine z_callV1 C (c_X7_isChild l E _ _) ⟨rfl, rfl⟩ rfl rfl q_X7_142 ⟨by decide, by decide⟩ (Nat.le_of_ble_eq_true rfl) dX7_told_27 (fun v F9 hp => ?_)
        obtain ⟨rfl, e9⟩ := hp
        rw [e9]
        clear e9 F9
        refine z_if_ne C 37 dX7_told_30 (by decide) (fun h30 => ?_) (fun h30 => ?_)
        · skip
          have h30 := bI_1 h30
          refine z_iload C 0 dX7_told_37 rfl ?_
          refine z_if_eq C 49 dX7_told_39 (by decide) (fun h39 => ?_) (fun h39 => ?_)
          · skip
            obtain ⟨j, nn, len, hj, rfl, rfl, hnl, hlen⟩ := tTrM_0 hsz h012 h10
            have ej : (nI j).toNatClampNeg = j := nI_clamp (by omega)
            have en : (nI nn).toNatClampNeg = nn := nI_clamp (by omega)
            obtain ⟨c, hc, ew⟩ := inR_of (n := nC M.1) (by rw [← eC]; exact h30) (by omega)
            have hc6 : c < 6 := by omega
            refine z_aload_n C 1 dX7_told_49 rfl ?_
            refine z_aload_n C 1 dX7_told_50 rfl ?_
            refine mg_37 C dX7_told_51 ?_
            refine z_iconst C (v := 0) dX7_told_54 rfl ?_
            refine z_callV2 C (c_allF l E _ (k2 := 37) (by omega)) ⟨rfl, rfl⟩ rfl rfl q_X7_210 ⟨by decide, by decide⟩ (Nat.le_of_ble_eq_true rfl) dX7_told_55 (fun v F9 hp => ?_)
            obtain ⟨rfl, e9⟩ := hp
            rw [e9]
            clear e9 F9
            refine z_aload_n C 1 dX7_told_58 rfl ?_
            refine mg_6 C dX7_told_59 ?_
            refine z_istore C dX7_told_62 (by decide) ?_
            refine z_aload_n C 2 dX7_told_64 rfl ?_
            refine z_iload_n C 3 dX7_told_65 rfl ?_
            refine z_iload_n C 4 dX7_told_66 rfl ?_
            refine z_callV2 C (c_X7_wrongIn l E (mT M 37 (pkN (M.2.2.1 37) M.1 74)) hz h hN hj (by omega)) ⟨rfl, rfl⟩ rfl rfl q_X7_287 ⟨by decide, by decide⟩ (Nat.le_of_ble_eq_true rfl) dX7_told_67 (fun v F9 hp => ?_)
            obtain ⟨rfl, B, e9⟩ := hp
            rw [e9]
            clear e9 F9
            have eW : wrA (mT M 37 (pkN (M.2.2.1 37) M.1 74)).1 (dM (mT M 37 (pkN (M.2.2.1 37) M.1 74)) j) nn = wrA M.1 (dM M j) nn := rfl
            rw [eW]
            have hwl : ∀ {w}, (wrA M.1 (dM M j) nn).1 = some w → w < nn + 1 := fun hw => wrA_lt hw
            refine z_istore C dX7_told_70 (by decide) ?_
            refine z_iload_n C 6 dX7_told_72 rfl ?_
            refine z_if_ne C 86 dX7_told_73 (by decide) (fun h73 => ?_) (fun h73 => ?_)
            · skip
              refine z_iload_n C 6 dX7_told_86 rfl ?_
              refine z_iconst C (v := 1) dX7_told_87 rfl ?_
              refine z_icmp_ne C 98 dX7_told_88 (by decide) (fun h88 => ?_) (fun h88 => ?_)
              · skip
                refine z_aload_n C 3 dX7_told_98 rfl ?_
                refine mg_19 C dX7_told_99 ?_
                refine z_iload_n C 6 dX7_told_102 rfl ?_
                refine z_bipush C (v := 10) dX7_told_103 rfl ?_
                refine z_isub C dX7_told_105 ?_
                refine ml_19 C c ew hc6 dX7_told_106 ?_
                refine z_istore C dX7_told_107 (by decide) ?_
                refine z_aload_n C 4 dX7_told_109 rfl ?_
                refine z_callV0 C (c_X7_takesBack l E _ (g := M.1) hz (fun q hq => pkN_at hq)) ⟨rfl, rfl⟩ rfl rfl q_X7_262 ⟨by decide, by decide⟩ (Nat.le_of_ble_eq_true rfl) dX7_told_110 (fun v F9 hp => ?_)
                obtain ⟨rfl, g2, e9, hg2⟩ := hp
                rw [e9]
                clear e9 F9
                refine z_iload C 1 dX7_told_113 rfl ?_
                refine z_iconst C (v := (-1)) dX7_told_115 rfl ?_
                refine z_icmp_ne C 124 dX7_told_116 (by decide) (fun h116 => ?_) (fun h116 => ?_)
                · skip
                  refine z_aload_n C 4 dX7_told_124 rfl ?_
                  refine z_bipush C (v := (-6)) dX7_told_125 rfl ?_
                  refine z_callV1 C (c_X7_no l E _ (-6) 6 (by decide) (by decide) (by decide)) ⟨rfl, rfl⟩ rfl rfl q_X7_124 ⟨by decide, by decide⟩ (Nat.le_of_ble_eq_true rfl) dX7_told_127 (fun v F9 hp => ?_)
                  obtain ⟨rfl, e9⟩ := hp
                  rw [e9]
                  clear e9 F9
                  refine z_iret C0 dX7_told_130 ?_
                  have hn : ¬ (wrA M.1 (dM M j) nn).1 = none := fun z => h116 (by rw [z]; rfl)
                  exact mpt.ref (mSm_hp hg2) (by unfold kTold; rw [if_neg (fun z => z h10), if_neg (fun z => z (Or.inr (Or.inr ((ofC_in M.1 w).trans h30)))), ej, en]; rw [if_neg hn]) (by decide)
                · skip
                  refine z_iload C 0 dX7_told_119 rfl ?_
                  refine z_goto C 130 dX7_told_121 (by decide) ?_
                  refine z_iret C0 dX7_told_130 ?_
                  have hn : (wrA M.1 (dM M j) nn).1 = none := oI_m1 hwl h116 (by omega)
                  exact mpt.ok (by unfold kTold; rw [if_neg (fun z => z h10), if_neg (fun z => z (Or.inr (Or.inr ((ofC_in M.1 w).trans h30)))), ej, en]; rw [if_pos hn]) (by rw [ej, en]; unfold aTold; rw [if_pos ((ofC_in _ _).trans h30), ew, nI_clamp (by omega)]; rfl) (mSm_hp hg2)
              · exact absurd h88 h19
            · exact absurd h73 h14
          · exact absurd h10 h39
        · skip
          have h30 := bI_0 h30
          refine z_bipush C (v := (-5)) dX7_told_33 rfl ?_
          refine z_istore C dX7_told_35 (by decide) ?_
          refine z_iload C 0 dX7_told_37 rfl ?_
          refine z_if_eq C 49 dX7_told_39 (by decide) (fun h39 => ?_) (fun h39 => ?_)
          · exact absurd h39 (by decide)
          · skip
            
            refine z_aload_n C 1 dX7_told_42 rfl ?_
            refine z_iload C 0 dX7_told_43 rfl ?_
            refine z_callV1 C (c_X7_no l E _ (-5) 5 (by decide) (by decide) (by decide)) ⟨rfl, rfl⟩ rfl rfl q_X7_124 ⟨by decide, by decide⟩ (Nat.le_of_ble_eq_true rfl) dX7_told_45 (fun v F9 hp => ?_)
            obtain ⟨rfl, e9⟩ := hp
            rw [e9]
            clear e9 F9
            refine z_iret C0 dX7_told_48 ?_
            exact mpt.ref (mSm.rf M) (by unfold kTold; rw [if_neg (fun z => z h10), if_pos (by rintro (z | z | z); exact h14 z; exact h19 z; exact absurd (h30.symm.trans ((ofC_in _ _).symm.trans z)) (by decide))]) (by decide)
set_option maxRecDepth 100000 in
set_option maxHeartbeats 4000000 in
theorem c_X7_done (l : Launch) (E : zE) (M : zM) (hz : gz M.1) {N : Nat} (h : rg N M.1) (hN : N ≤ 100000000) (hsz : ∀ j, j < 8 → M.2.2.1 21 j = 1 → ∃ n, n ≤ 160 ∧ M.2.2.1 23 j = nI n) (h012 : ∀ j, j < 8 → M.2.2.1 21 j = 0 ∨ M.2.2.1 21 j = 1 ∨ M.2.2.1 21 j = 2) (sh n : Int32) : MM l E yX7_done cX7_done 4 (some .int) 7 [.ref (madr E.2.2.1 (0, 0, 0)), .int (sh), .int (n)] (M) (mpt M (kDone (tTrM M sh n) (wrA M.1 (dM M sh.toNatClampNeg) n.toNatClampNeg).1) ((wrA M.1 (dM M sh.toNatClampNeg) n.toNatClampNeg).2.1.1 2) (fun M2 => M2.1 = (wrA M.1 (dM M sh.toNatClampNeg) n.toNatClampNeg).2.1 ∧ mRs M M2)) := by
  refine MM.mk kq_X7 (Nat.le_of_ble_eq_true rfl) (fun K s C0 => ?_)
  have C := C0.c
  obtain ⟨⟨eS, lS⟩, ⟨eC, lC⟩⟩ := id hz
  have hsm : sms M.1 := h.sm (by omega)
  refine z_aload_n C 0 dX7_done_0 rfl ?_
  refine z_iload_n C 1 dX7_done_1 rfl ?_
  refine z_iload_n C 2 dX7_done_2 rfl ?_
  refine z_callV2 C (c_X7_barsOf l E _ _ _) ⟨rfl, rfl⟩ rfl rfl q_X7_284 ⟨by decide, by decide⟩ (Nat.le_of_ble_eq_true rfl) dX7_done_3 (fun v F9 hp => ?_)
  obtain ⟨rfl, e9⟩ := hp
  rw [e9]
  clear e9 F9
  refine z_istore_n (i := 3) C dX7_done_6 rfl (by decide) ?_
  refine z_iload_n C 0 dX7_done_7 rfl ?_
  refine z_if_eq C 17 dX7_done_8 (by decide) (fun h8 => ?_) (fun h8 => ?_)
  · skip
    obtain ⟨j, nn, len, hj, rfl, rfl, hnl, hlen⟩ := tTrM_0 hsz h012 h8
    have ej : (nI j).toNatClampNeg = j := nI_clamp (by omega)
    have en : (nI nn).toNatClampNeg = nn := nI_clamp (by omega)
    refine z_aload_n C 1 dX7_done_17 rfl ?_
    refine z_aload_n C 1 dX7_done_18 rfl ?_
    refine mg_37 C dX7_done_19 ?_
    refine z_iconst C (v := 0) dX7_done_22 rfl ?_
    refine z_callV2 C (c_allF l E _ (k2 := 37) (by omega)) ⟨rfl, rfl⟩ rfl rfl q_X7_210 ⟨by decide, by decide⟩ (Nat.le_of_ble_eq_true rfl) dX7_done_23 (fun v F9 hp => ?_)
    obtain ⟨rfl, e9⟩ := hp
    rw [e9]
    clear e9 F9
    refine z_aload_n C 1 dX7_done_26 rfl ?_
    refine z_iload_n C 2 dX7_done_27 rfl ?_
    refine z_iload_n C 3 dX7_done_28 rfl ?_
    refine z_callV2 C (c_X7_wrongIn l E (mT M 37 (pkN (M.2.2.1 37) M.1 74)) hz h hN hj (by omega)) ⟨rfl, rfl⟩ rfl rfl q_X7_287 ⟨by decide, by decide⟩ (Nat.le_of_ble_eq_true rfl) dX7_done_29 (fun v F9 hp => ?_)
    obtain ⟨rfl, B, e9⟩ := hp
    rw [e9]
    clear e9 F9
    have eW : wrA (mT M 37 (pkN (M.2.2.1 37) M.1 74)).1 (dM (mT M 37 (pkN (M.2.2.1 37) M.1 74)) j) nn = wrA M.1 (dM M j) nn := rfl
    rw [eW]
    have hwl : ∀ {w}, (wrA M.1 (dM M j) nn).1 = some w → w < nn + 1 := fun hw => wrA_lt hw
    refine z_iconst C (v := (-1)) dX7_done_32 rfl ?_
    refine z_icmp_ne C 41 dX7_done_33 (by decide) (fun h33 => ?_) (fun h33 => ?_)
    · skip
      refine z_aload_n C 1 dX7_done_41 rfl ?_
      refine z_callV0 C (c_X7_takesBack l E _ (g := M.1) hz (fun q hq => pkN_at hq)) ⟨rfl, rfl⟩ rfl rfl q_X7_262 ⟨by decide, by decide⟩ (Nat.le_of_ble_eq_true rfl) dX7_done_42 (fun v F9 hp => ?_)
      obtain ⟨rfl, g2, e9, hg2⟩ := hp
      rw [e9]
      clear e9 F9
      refine z_aload_n C 1 dX7_done_45 rfl ?_
      refine z_bipush C (v := (-6)) dX7_done_46 rfl ?_
      refine z_callV1 C (c_X7_no l E _ (-6) 6 (by decide) (by decide) (by decide)) ⟨rfl, rfl⟩ rfl rfl q_X7_124 ⟨by decide, by decide⟩ (Nat.le_of_ble_eq_true rfl) dX7_done_48 (fun v F9 hp => ?_)
      obtain ⟨rfl, e9⟩ := hp
      rw [e9]
      clear e9 F9
      refine z_iret C0 dX7_done_51 ?_
      have hn : ¬ (wrA M.1 (dM M j) nn).1 = none := fun z => h33 (by rw [z]; rfl)
      exact mpt.ref (mSm_hp hg2) (by unfold kDone; rw [if_neg (fun z => z h8), ej, en, if_neg hn]) (by decide)
    · skip
      refine z_aload_n C 1 dX7_done_36 rfl ?_
      refine mg_2 C dX7_done_37 ?_
      refine z_iret C0 dX7_done_40 ?_
      have hn : (wrA M.1 (dM M j) nn).1 = none := oI_m1 hwl h33 (by omega)
      exact mpt.ok (by unfold kDone; rw [if_neg (fun z => z h8), ej, en, if_pos hn]) (by rw [ej, en]; rfl) ⟨by rw [ej, en]; rfl, mRs_hp⟩
  · skip
    obtain ⟨k0, hk8, hb1, hb2, hb3⟩ := tTrM_k h8
    refine z_aload_n C 1 dX7_done_11 rfl ?_
    refine z_iload_n C 0 dX7_done_12 rfl ?_
    refine z_callV1 C (c_X7_no l E _ (tTrM M sh n) k0 hk8 hb1 hb2) ⟨rfl, rfl⟩ rfl rfl q_X7_124 ⟨by decide, by decide⟩ (Nat.le_of_ble_eq_true rfl) dX7_done_13 (fun v F9 hp => ?_)
    obtain ⟨rfl, e9⟩ := hp
    rw [e9]
    clear e9 F9
    refine z_iret C0 dX7_done_16 ?_
    exact mpt.ref (mSm.rf M) (by unfold kDone; rw [if_pos h8]) h8
set_option maxRecDepth 100000 in
set_option maxHeartbeats 4000000 in
theorem c_X7_addsShop (l : Launch) (E : zE) (M : zM) (hz : gz M.1) (h6 : nS M.1 < 6) (k a p : Int32) : MM l E yX7_addsShop cX7_addsShop 4 (some .int) 1 [.ref (madr E.2.2.1 (0, 0, 0)), .int (k), .int (a), .int (p)] (M) (fun v M2 => v = some (.int (M.1.1 0)) ∧ M2 = mG M (addSh M.1 k a p)) := by
  refine MM.mk kq_X7 (Nat.le_of_ble_eq_true rfl) (fun K s C0 => ?_)
  have C := C0.c
  obtain ⟨⟨eS, lS⟩, ⟨eC, lC⟩⟩ := id hz
  refine z_aload_n C 0 dX7_addsShop_0 rfl ?_
  refine mg_10 C dX7_addsShop_1 ?_
  refine z_aload_n C 0 dX7_addsShop_4 rfl ?_
  refine mg_0 C dX7_addsShop_5 ?_
  refine z_top (nI (nS M.1)) (eS) ?_
  refine z_iload_n C 1 dX7_addsShop_8 rfl ?_
  refine ms_10 C (nS M.1) rfl (by first | assumption | omega) dX7_addsShop_9 ?_
  refine z_aload_n C 0 dX7_addsShop_10 rfl ?_
  refine mg_11 C dX7_addsShop_11 ?_
  refine z_aload_n C 0 dX7_addsShop_14 rfl ?_
  refine mg_0 C dX7_addsShop_15 ?_
  refine z_top (nI (nS M.1)) (eS) ?_
  refine z_iload_n C 2 dX7_addsShop_18 rfl ?_
  refine ms_11 C (nS M.1) rfl (by first | assumption | omega) dX7_addsShop_19 ?_
  refine z_aload_n C 0 dX7_addsShop_20 rfl ?_
  refine mg_12 C dX7_addsShop_21 ?_
  refine z_aload_n C 0 dX7_addsShop_24 rfl ?_
  refine mg_0 C dX7_addsShop_25 ?_
  refine z_top (nI (nS M.1)) (eS) ?_
  refine z_iload_n C 3 dX7_addsShop_28 rfl ?_
  refine ms_12 C (nS M.1) rfl (by first | assumption | omega) dX7_addsShop_29 ?_
  refine z_aload_n C 0 dX7_addsShop_30 rfl ?_
  refine mg_13 C dX7_addsShop_31 ?_
  refine z_aload_n C 0 dX7_addsShop_34 rfl ?_
  refine mg_0 C dX7_addsShop_35 ?_
  refine z_top (nI (nS M.1)) (eS) ?_
  refine z_iconst C (v := 0) dX7_addsShop_38 rfl ?_
  refine ms_13 C (nS M.1) rfl (by first | assumption | omega) dX7_addsShop_39 ?_
  refine z_aload_n C 0 dX7_addsShop_40 rfl ?_
  refine mg_14 C dX7_addsShop_41 ?_
  refine z_aload_n C 0 dX7_addsShop_44 rfl ?_
  refine mg_0 C dX7_addsShop_45 ?_
  refine z_top (nI (nS M.1)) (eS) ?_
  refine z_iconst C (v := 0) dX7_addsShop_48 rfl ?_
  refine ms_14 C (nS M.1) rfl (by first | assumption | omega) dX7_addsShop_49 ?_
  refine z_aload_n C 0 dX7_addsShop_50 rfl ?_
  refine z_dup C dX7_addsShop_51 rfl ?_
  refine mg_0 C dX7_addsShop_52 ?_
  refine z_dup_x1 C dX7_addsShop_55 rfl rfl ?_
  refine z_iconst C (v := 1) dX7_addsShop_56 rfl ?_
  refine z_iadd C dX7_addsShop_57 ?_
  refine mp_0 C dX7_addsShop_58 ?_
  refine z_iret C0 dX7_addsShop_61 ?_
  exact ⟨rfl, rfl⟩
set_option maxRecDepth 100000 in
set_option maxHeartbeats 4000000 in
theorem c_X7_addsChild (l : Launch) (E : zE) (M : zM) (hz : gz M.1) (h6 : nC M.1 < 6) (a p : Int32) : MM l E yX7_addsChild cX7_addsChild 3 (some .int) 1 [.ref (madr E.2.2.1 (0, 0, 0)), .int (a), .int (p)] (M) (fun v M2 => v = some (.int (M.1.1 1)) ∧ M2 = mG M (addCh M.1 a p)) := by
  refine MM.mk kq_X7 (Nat.le_of_ble_eq_true rfl) (fun K s C0 => ?_)
  have C := C0.c
  obtain ⟨⟨eS, lS⟩, ⟨eC, lC⟩⟩ := id hz
  refine z_aload_n C 0 dX7_addsChild_0 rfl ?_
  refine mg_15 C dX7_addsChild_1 ?_
  refine z_aload_n C 0 dX7_addsChild_4 rfl ?_
  refine mg_1 C dX7_addsChild_5 ?_
  refine z_top (nI (nC M.1)) (eC) ?_
  refine z_iload_n C 1 dX7_addsChild_8 rfl ?_
  refine ms_15 C (nC M.1) rfl (by first | assumption | omega) dX7_addsChild_9 ?_
  refine z_aload_n C 0 dX7_addsChild_10 rfl ?_
  refine mg_16 C dX7_addsChild_11 ?_
  refine z_aload_n C 0 dX7_addsChild_14 rfl ?_
  refine mg_1 C dX7_addsChild_15 ?_
  refine z_top (nI (nC M.1)) (eC) ?_
  refine z_iload_n C 2 dX7_addsChild_18 rfl ?_
  refine ms_16 C (nC M.1) rfl (by first | assumption | omega) dX7_addsChild_19 ?_
  refine z_aload_n C 0 dX7_addsChild_20 rfl ?_
  refine mg_17 C dX7_addsChild_21 ?_
  refine z_aload_n C 0 dX7_addsChild_24 rfl ?_
  refine mg_1 C dX7_addsChild_25 ?_
  refine z_top (nI (nC M.1)) (eC) ?_
  refine z_iconst C (v := 0) dX7_addsChild_28 rfl ?_
  refine ms_17 C (nC M.1) rfl (by first | assumption | omega) dX7_addsChild_29 ?_
  refine z_aload_n C 0 dX7_addsChild_30 rfl ?_
  refine mg_18 C dX7_addsChild_31 ?_
  refine z_aload_n C 0 dX7_addsChild_34 rfl ?_
  refine mg_1 C dX7_addsChild_35 ?_
  refine z_top (nI (nC M.1)) (eC) ?_
  refine z_iconst C (v := 0) dX7_addsChild_38 rfl ?_
  refine ms_18 C (nC M.1) rfl (by first | assumption | omega) dX7_addsChild_39 ?_
  refine z_aload_n C 0 dX7_addsChild_40 rfl ?_
  refine mg_19 C dX7_addsChild_41 ?_
  refine z_aload_n C 0 dX7_addsChild_44 rfl ?_
  refine mg_1 C dX7_addsChild_45 ?_
  refine z_top (nI (nC M.1)) (eC) ?_
  refine z_iconst C (v := 0) dX7_addsChild_48 rfl ?_
  refine ms_19 C (nC M.1) rfl (by first | assumption | omega) dX7_addsChild_49 ?_
  refine z_aload_n C 0 dX7_addsChild_50 rfl ?_
  refine mg_20 C dX7_addsChild_51 ?_
  refine z_aload_n C 0 dX7_addsChild_54 rfl ?_
  refine mg_1 C dX7_addsChild_55 ?_
  refine z_top (nI (nC M.1)) (eC) ?_
  refine z_iconst C (v := (-1)) dX7_addsChild_58 rfl ?_
  refine ms_20 C (nC M.1) rfl (by first | assumption | omega) dX7_addsChild_59 ?_
  refine z_aload_n C 0 dX7_addsChild_60 rfl ?_
  refine z_dup C dX7_addsChild_61 rfl ?_
  refine mg_1 C dX7_addsChild_62 ?_
  refine z_dup_x1 C dX7_addsChild_65 rfl rfl ?_
  refine z_iconst C (v := 1) dX7_addsChild_66 rfl ?_
  refine z_iadd C dX7_addsChild_67 ?_
  refine mp_1 C dX7_addsChild_68 ?_
  refine z_iret C0 dX7_addsChild_71 ?_
  exact ⟨rfl, rfl⟩
set_option maxRecDepth 100000 in
set_option maxHeartbeats 4000000 in
theorem c_X7_shop (l : Launch) (E : zE) (M : zM) (hz : gz M.1) (k a p : Int32) : MM l E yX7_shop cX7_shop 4 (some .int) 3 [.ref (madr E.2.2.1 (0, 0, 0)), .int (k), .int (a), .int (p)] (M) (mpo M (kShop M.1 k a p) (M.1.1 0) (fun M2 => M2 = mG M (addSh M.1 k a p))) := by
  refine MM.mk kq_X7 (Nat.le_of_ble_eq_true rfl) (fun K s C0 => ?_)
  have C := C0.c
  obtain ⟨⟨eS, lS⟩, ⟨eC, lC⟩⟩ := id hz
  refine z_iload_n C 1 dX7_shop_0 rfl ?_
  refine z_if_lt C 10 dX7_shop_1 (by decide) (fun h1 => ?_) (fun h1 => ?_)
  · skip
    refine z_aload_n C 0 dX7_shop_10 rfl ?_
    refine z_iconst C (v := (-1)) dX7_shop_11 rfl ?_
    refine z_callV1 C (c_X7_no l E _ (-1) 1 (by decide) (by decide) (by decide)) ⟨rfl, rfl⟩ rfl rfl q_X7_124 ⟨by decide, by decide⟩ (Nat.le_of_ble_eq_true rfl) dX7_shop_12 (fun v F9 hp => ?_)
    obtain ⟨rfl, e9⟩ := hp
    rw [e9]
    clear e9 F9
    refine z_iret C0 dX7_shop_15 ?_
    exact mpo.ref (by simp [kShop, inR_f1 h1, h1, Int32.not_le.mpr h1]) (by decide)
  · skip
    refine z_iload_n C 1 dX7_shop_4 rfl ?_
    refine z_bipush C (v := 6) dX7_shop_5 rfl ?_
    refine z_icmp_le C 16 dX7_shop_7 (by decide) (fun h7 => ?_) (fun h7 => ?_)
    · skip
      refine z_iload_n C 2 dX7_shop_16 rfl ?_
      refine z_if_lt C 38 dX7_shop_17 (by decide) (fun h17 => ?_) (fun h17 => ?_)
      · skip
        refine z_aload_n C 0 dX7_shop_38 rfl ?_
        refine z_bipush C (v := (-6)) dX7_shop_39 rfl ?_
        refine z_callV1 C (c_X7_no l E _ (-6) 6 (by decide) (by decide) (by decide)) ⟨rfl, rfl⟩ rfl rfl q_X7_124 ⟨by decide, by decide⟩ (Nat.le_of_ble_eq_true rfl) dX7_shop_41 (fun v F9 hp => ?_)
        obtain ⟨rfl, e9⟩ := hp
        rw [e9]
        clear e9 F9
        refine z_iret C0 dX7_shop_44 ?_
        exact mpo.ref (by simp [kShop, inRle_t (a := 6) (b := 7) rfl h1 (h7), h1, Int32.not_lt.mp h1, h7, Int32.not_lt.mpr h7, h17, Int32.not_le.mpr h17]) (by decide)
      · skip
        refine z_iload_n C 2 dX7_shop_20 rfl ?_
        refine z_bipush C (v := 9) dX7_shop_21 rfl ?_
        refine z_icmp_gt C 38 dX7_shop_23 (by decide) (fun h23 => ?_) (fun h23 => ?_)
        · skip
          refine z_aload_n C 0 dX7_shop_38 rfl ?_
          refine z_bipush C (v := (-6)) dX7_shop_39 rfl ?_
          refine z_callV1 C (c_X7_no l E _ (-6) 6 (by decide) (by decide) (by decide)) ⟨rfl, rfl⟩ rfl rfl q_X7_124 ⟨by decide, by decide⟩ (Nat.le_of_ble_eq_true rfl) dX7_shop_41 (fun v F9 hp => ?_)
          obtain ⟨rfl, e9⟩ := hp
          rw [e9]
          clear e9 F9
          refine z_iret C0 dX7_shop_44 ?_
          exact mpo.ref (by simp [kShop, inRle_t (a := 6) (b := 7) rfl h1 (h7), h1, Int32.not_lt.mp h1, h7, Int32.not_lt.mpr h7, h17, Int32.not_lt.mp h17, h23, Int32.not_le.mpr h23]) (by decide)
        · skip
          refine z_iload_n C 3 dX7_shop_26 rfl ?_
          refine z_iconst C (v := 1) dX7_shop_27 rfl ?_
          refine z_icmp_lt C 38 dX7_shop_28 (by decide) (fun h28 => ?_) (fun h28 => ?_)
          · skip
            refine z_aload_n C 0 dX7_shop_38 rfl ?_
            refine z_bipush C (v := (-6)) dX7_shop_39 rfl ?_
            refine z_callV1 C (c_X7_no l E _ (-6) 6 (by decide) (by decide) (by decide)) ⟨rfl, rfl⟩ rfl rfl q_X7_124 ⟨by decide, by decide⟩ (Nat.le_of_ble_eq_true rfl) dX7_shop_41 (fun v F9 hp => ?_)
            obtain ⟨rfl, e9⟩ := hp
            rw [e9]
            clear e9 F9
            refine z_iret C0 dX7_shop_44 ?_
            exact mpo.ref (by simp [kShop, inRle_t (a := 6) (b := 7) rfl h1 (h7), h1, Int32.not_lt.mp h1, h7, Int32.not_lt.mpr h7, h17, Int32.not_lt.mp h17, h23, Int32.not_lt.mp h23, h28, Int32.not_le.mpr h28]) (by decide)
          · skip
            refine z_iload_n C 3 dX7_shop_31 rfl ?_
            refine z_sipush C (v := 999) dX7_shop_32 rfl ?_
            refine z_icmp_le C 45 dX7_shop_35 (by decide) (fun h35 => ?_) (fun h35 => ?_)
            · skip
              refine z_aload_n C 0 dX7_shop_45 rfl ?_
              refine mg_0 C dX7_shop_46 ?_
              refine z_bipush C (v := 6) dX7_shop_49 rfl ?_
              refine z_icmp_ne C 63 dX7_shop_51 (by decide) (fun h51 => ?_) (fun h51 => ?_)
              · skip
                refine z_aload_n C 0 dX7_shop_63 rfl ?_
                refine z_iload_n C 1 dX7_shop_64 rfl ?_
                refine z_iload_n C 2 dX7_shop_65 rfl ?_
                refine z_iload_n C 3 dX7_shop_66 rfl ?_
                refine z_callV3 C (c_X7_addsShop l E M hz (ne6 eS lS h51) k a p) ⟨rfl, rfl⟩ rfl rfl q_X7_134 ⟨by decide, by decide⟩ (Nat.le_of_ble_eq_true rfl) dX7_shop_67 (fun v F9 hp => ?_)
                obtain ⟨rfl, e9⟩ := hp
                rw [e9]
                clear e9 F9
                refine z_iret C0 dX7_shop_70 ?_
                exact mpo.ok (by simp [kShop, lt6_ne eS lS h51, inRle_t (a := 6) (b := 7) rfl h1 (h7), h1, Int32.not_lt.mp h1, h7, Int32.not_lt.mpr h7, h17, Int32.not_lt.mp h17, h23, Int32.not_lt.mp h23, h28, Int32.not_lt.mp h28, h35, Int32.not_lt.mpr h35]) rfl rfl
              · skip
                refine z_aload_n C 0 dX7_shop_54 rfl ?_
                refine z_bipush C (v := (-7)) dX7_shop_55 rfl ?_
                refine z_callV1 C (c_X7_no l E _ (-7) 7 (by decide) (by decide) (by decide)) ⟨rfl, rfl⟩ rfl rfl q_X7_124 ⟨by decide, by decide⟩ (Nat.le_of_ble_eq_true rfl) dX7_shop_57 (fun v F9 hp => ?_)
                obtain ⟨rfl, e9⟩ := hp
                rw [e9]
                clear e9 F9
                refine z_goto C 70 dX7_shop_60 (by decide) ?_
                refine z_iret C0 dX7_shop_70 ?_
                exact mpo.ref (by simp [kShop, inRle_t (a := 6) (b := 7) rfl h1 (h7), h1, Int32.not_lt.mp h1, h7, Int32.not_lt.mpr h7, h17, Int32.not_lt.mp h17, h23, Int32.not_lt.mp h23, h28, Int32.not_lt.mp h28, h35, Int32.not_lt.mpr h35, h51]) (by decide)
            · skip
              refine z_aload_n C 0 dX7_shop_38 rfl ?_
              refine z_bipush C (v := (-6)) dX7_shop_39 rfl ?_
              refine z_callV1 C (c_X7_no l E _ (-6) 6 (by decide) (by decide) (by decide)) ⟨rfl, rfl⟩ rfl rfl q_X7_124 ⟨by decide, by decide⟩ (Nat.le_of_ble_eq_true rfl) dX7_shop_41 (fun v F9 hp => ?_)
              obtain ⟨rfl, e9⟩ := hp
              rw [e9]
              clear e9 F9
              refine z_iret C0 dX7_shop_44 ?_
              exact mpo.ref (by simp [kShop, inRle_t (a := 6) (b := 7) rfl h1 (h7), h1, Int32.not_lt.mp h1, h7, Int32.not_lt.mpr h7, h17, Int32.not_lt.mp h17, h23, Int32.not_lt.mp h23, h28, Int32.not_lt.mp h28, h35, Int32.not_le.mp h35]) (by decide)
    · skip
      refine z_aload_n C 0 dX7_shop_10 rfl ?_
      refine z_iconst C (v := (-1)) dX7_shop_11 rfl ?_
      refine z_callV1 C (c_X7_no l E _ (-1) 1 (by decide) (by decide) (by decide)) ⟨rfl, rfl⟩ rfl rfl q_X7_124 ⟨by decide, by decide⟩ (Nat.le_of_ble_eq_true rfl) dX7_shop_12 (fun v F9 hp => ?_)
      obtain ⟨rfl, e9⟩ := hp
      rw [e9]
      clear e9 F9
      refine z_iret C0 dX7_shop_15 ?_
      exact mpo.ref (by simp [kShop, inRle_f (a := 6) (b := 7) rfl (Int32.not_le.mp h7), h1, Int32.not_lt.mp h1, h7, Int32.not_le.mp h7]) (by decide)
set_option maxRecDepth 100000 in
set_option maxHeartbeats 4000000 in
theorem c_X7_child (l : Launch) (E : zE) (M : zM) (hz : gz M.1) (n q : Int32) : MM l E yX7_child cX7_child 3 (some .int) 3 [.ref (madr E.2.2.1 (0, 0, 0)), .int (n), .int (q)] (M) (mpo M (kChild M.1 n q) (M.1.1 1) (fun M2 => M2 = mG M (addCh M.1 n q))) := by
  refine MM.mk kq_X7 (Nat.le_of_ble_eq_true rfl) (fun K s C0 => ?_)
  have C := C0.c
  obtain ⟨⟨eS, lS⟩, ⟨eC, lC⟩⟩ := id hz
  refine z_iload_n C 1 dX7_child_0 rfl ?_
  refine z_iconst C (v := 1) dX7_child_1 rfl ?_
  refine z_icmp_lt C 22 dX7_child_2 (by decide) (fun h2 => ?_) (fun h2 => ?_)
  · skip
    refine z_aload_n C 0 dX7_child_22 rfl ?_
    refine z_bipush C (v := (-6)) dX7_child_23 rfl ?_
    refine z_callV1 C (c_X7_no l E _ (-6) 6 (by decide) (by decide) (by decide)) ⟨rfl, rfl⟩ rfl rfl q_X7_124 ⟨by decide, by decide⟩ (Nat.le_of_ble_eq_true rfl) dX7_child_25 (fun v F9 hp => ?_)
    obtain ⟨rfl, e9⟩ := hp
    rw [e9]
    clear e9 F9
    refine z_iret C0 dX7_child_28 ?_
    exact mpo.ref (by simp [kChild, h2, Int32.not_le.mpr h2]) (by decide)
  · skip
    refine z_iload_n C 1 dX7_child_5 rfl ?_
    refine z_bipush C (v := 99) dX7_child_6 rfl ?_
    refine z_icmp_gt C 22 dX7_child_8 (by decide) (fun h8 => ?_) (fun h8 => ?_)
    · skip
      refine z_aload_n C 0 dX7_child_22 rfl ?_
      refine z_bipush C (v := (-6)) dX7_child_23 rfl ?_
      refine z_callV1 C (c_X7_no l E _ (-6) 6 (by decide) (by decide) (by decide)) ⟨rfl, rfl⟩ rfl rfl q_X7_124 ⟨by decide, by decide⟩ (Nat.le_of_ble_eq_true rfl) dX7_child_25 (fun v F9 hp => ?_)
      obtain ⟨rfl, e9⟩ := hp
      rw [e9]
      clear e9 F9
      refine z_iret C0 dX7_child_28 ?_
      exact mpo.ref (by simp [kChild, h2, Int32.not_lt.mp h2, h8, Int32.not_le.mpr h8]) (by decide)
    · skip
      refine z_iload_n C 2 dX7_child_11 rfl ?_
      refine z_if_lt C 22 dX7_child_12 (by decide) (fun h12 => ?_) (fun h12 => ?_)
      · skip
        refine z_aload_n C 0 dX7_child_22 rfl ?_
        refine z_bipush C (v := (-6)) dX7_child_23 rfl ?_
        refine z_callV1 C (c_X7_no l E _ (-6) 6 (by decide) (by decide) (by decide)) ⟨rfl, rfl⟩ rfl rfl q_X7_124 ⟨by decide, by decide⟩ (Nat.le_of_ble_eq_true rfl) dX7_child_25 (fun v F9 hp => ?_)
        obtain ⟨rfl, e9⟩ := hp
        rw [e9]
        clear e9 F9
        refine z_iret C0 dX7_child_28 ?_
        exact mpo.ref (by simp [kChild, h2, Int32.not_lt.mp h2, h8, Int32.not_lt.mp h8, h12, Int32.not_le.mpr h12]) (by decide)
      · skip
        refine z_iload_n C 2 dX7_child_15 rfl ?_
        refine z_sipush C (v := 9999) dX7_child_16 rfl ?_
        refine z_icmp_le C 29 dX7_child_19 (by decide) (fun h19 => ?_) (fun h19 => ?_)
        · skip
          refine z_aload_n C 0 dX7_child_29 rfl ?_
          refine mg_1 C dX7_child_30 ?_
          refine z_bipush C (v := 6) dX7_child_33 rfl ?_
          refine z_icmp_ne C 47 dX7_child_35 (by decide) (fun h35 => ?_) (fun h35 => ?_)
          · skip
            refine z_aload_n C 0 dX7_child_47 rfl ?_
            refine z_iload_n C 1 dX7_child_48 rfl ?_
            refine z_iload_n C 2 dX7_child_49 rfl ?_
            refine z_callV2 C (c_X7_addsChild l E M hz (ne6 eC lC h35) n q) ⟨rfl, rfl⟩ rfl rfl q_X7_138 ⟨by decide, by decide⟩ (Nat.le_of_ble_eq_true rfl) dX7_child_50 (fun v F9 hp => ?_)
            obtain ⟨rfl, e9⟩ := hp
            rw [e9]
            clear e9 F9
            refine z_iret C0 dX7_child_53 ?_
            exact mpo.ok (by simp [kChild, lt6_ne eC lC h35, h2, Int32.not_lt.mp h2, h8, Int32.not_lt.mp h8, h12, Int32.not_lt.mp h12, h19, Int32.not_lt.mpr h19]) rfl rfl
          · skip
            refine z_aload_n C 0 dX7_child_38 rfl ?_
            refine z_bipush C (v := (-7)) dX7_child_39 rfl ?_
            refine z_callV1 C (c_X7_no l E _ (-7) 7 (by decide) (by decide) (by decide)) ⟨rfl, rfl⟩ rfl rfl q_X7_124 ⟨by decide, by decide⟩ (Nat.le_of_ble_eq_true rfl) dX7_child_41 (fun v F9 hp => ?_)
            obtain ⟨rfl, e9⟩ := hp
            rw [e9]
            clear e9 F9
            refine z_goto C 53 dX7_child_44 (by decide) ?_
            refine z_iret C0 dX7_child_53 ?_
            exact mpo.ref (by simp [kChild, h2, Int32.not_lt.mp h2, h8, Int32.not_lt.mp h8, h12, Int32.not_lt.mp h12, h19, Int32.not_lt.mpr h19, h35]) (by decide)
        · skip
          refine z_aload_n C 0 dX7_child_22 rfl ?_
          refine z_bipush C (v := (-6)) dX7_child_23 rfl ?_
          refine z_callV1 C (c_X7_no l E _ (-6) 6 (by decide) (by decide) (by decide)) ⟨rfl, rfl⟩ rfl rfl q_X7_124 ⟨by decide, by decide⟩ (Nat.le_of_ble_eq_true rfl) dX7_child_25 (fun v F9 hp => ?_)
          obtain ⟨rfl, e9⟩ := hp
          rw [e9]
          clear e9 F9
          refine z_iret C0 dX7_child_28 ?_
          exact mpo.ref (by simp [kChild, h2, Int32.not_lt.mp h2, h8, Int32.not_lt.mp h8, h12, Int32.not_lt.mp h12, h19, Int32.not_le.mp h19]) (by decide)
set_option maxRecDepth 100000 in
set_option maxHeartbeats 4000000 in
theorem c_X7_shopOf (l : Launch) (E : zE) (M : zM) (hz : gz M.1) (hsm : sms M.1) (p w : Int32) : MM l E yX7_shopOf cX7_shopOf 3 (some .int) 2 [.ref (madr E.2.2.1 (0, 0, 0)), .int (p), .int (w)] (M) (mpo M (kShopOf M.1 p w) (aShopOf (M.1.2.1 p.toNatClampNeg) w) (fun M2 => M2 = M)) := by
  refine MM.mk kq_X7 (Nat.le_of_ble_eq_true rfl) (fun K s C0 => ?_)
  have C := C0.c
  obtain ⟨⟨eS, lS⟩, ⟨eC, lC⟩⟩ := id hz
  refine z_aload_n C 0 dX7_shopOf_0 rfl ?_
  refine z_iload_n C 1 dX7_shopOf_1 rfl ?_
  refine z_callV1 C (c_X7_isShop l E _ _) ⟨rfl, rfl⟩ rfl rfl q_X7_128 ⟨by decide, by decide⟩ (Nat.le_of_ble_eq_true rfl) dX7_shopOf_2 (fun v F9 hp => ?_)
  obtain ⟨rfl, e9⟩ := hp
  rw [e9]
  clear e9 F9
  refine z_if_ne C 15 dX7_shopOf_5 (by decide) (fun h5 => ?_) (fun h5 => ?_)
  · skip
    have h5 := bI_1 h5
    obtain ⟨j, hj, rfl⟩ := inR_of (n := nS M.1) (by rw [← eS]; exact h5) (by omega)
    have hj6 : j < 6 := by omega
    have ej : (nI j).toNatClampNeg = j := nI_clamp (by omega)
    refine z_iload_n C 2 dX7_shopOf_15 rfl ?_
    refine z_case (0) (fun h16_0 => ?_) (fun h16_0 => ?_)
    · refine z_tabIn C (0) (40) 56 h16_0 dX7_shopOf_16 (by decide) (by decide) ?_
      refine z_aload_n C 0 dX7_shopOf_56 rfl ?_
      refine mg_10 C dX7_shopOf_57 ?_
      refine z_iload_n C 1 dX7_shopOf_60 rfl ?_
      refine ml_10 C j rfl (by first | assumption | omega) dX7_shopOf_61 ?_
      refine z_iret C0 dX7_shopOf_62 ?_
      subst h16_0
      exact mpo.ok (by simp [kShopOf, h5, show inR 0 6 = true from rfl]) (by rw [nI_clamp (by omega)]; rfl) rfl
    refine z_case (1) (fun h16_1 => ?_) (fun h16_1 => ?_)
    · refine z_tabIn C (1) (47) 63 h16_1 dX7_shopOf_16 (by decide) (by decide) ?_
      refine z_aload_n C 0 dX7_shopOf_63 rfl ?_
      refine mg_11 C dX7_shopOf_64 ?_
      refine z_iload_n C 1 dX7_shopOf_67 rfl ?_
      refine ml_11 C j rfl (by first | assumption | omega) dX7_shopOf_68 ?_
      refine z_iret C0 dX7_shopOf_69 ?_
      subst h16_1
      exact mpo.ok (by simp [kShopOf, h5, show inR 1 6 = true from rfl]) (by rw [nI_clamp (by omega)]; rfl) rfl
    refine z_case (2) (fun h16_2 => ?_) (fun h16_2 => ?_)
    · refine z_tabIn C (2) (54) 70 h16_2 dX7_shopOf_16 (by decide) (by decide) ?_
      refine z_aload_n C 0 dX7_shopOf_70 rfl ?_
      refine mg_12 C dX7_shopOf_71 ?_
      refine z_iload_n C 1 dX7_shopOf_74 rfl ?_
      refine ml_12 C j rfl (by first | assumption | omega) dX7_shopOf_75 ?_
      refine z_iret C0 dX7_shopOf_76 ?_
      subst h16_2
      exact mpo.ok (by simp [kShopOf, h5, show inR 2 6 = true from rfl]) (by rw [nI_clamp (by omega)]; rfl) rfl
    refine z_case (3) (fun h16_3 => ?_) (fun h16_3 => ?_)
    · refine z_tabIn C (3) (61) 77 h16_3 dX7_shopOf_16 (by decide) (by decide) ?_
      refine z_aload_n C 0 dX7_shopOf_77 rfl ?_
      refine mg_13 C dX7_shopOf_78 ?_
      refine z_iload_n C 1 dX7_shopOf_81 rfl ?_
      refine ml_13 C j rfl (by first | assumption | omega) dX7_shopOf_82 ?_
      refine z_iret C0 dX7_shopOf_83 ?_
      subst h16_3
      exact mpo.ok (by simp [kShopOf, h5, show inR 3 6 = true from rfl]) (by rw [nI_clamp (by omega)]; rfl) rfl
    refine z_case (4) (fun h16_4 => ?_) (fun h16_4 => ?_)
    · refine z_tabIn C (4) (68) 84 h16_4 dX7_shopOf_16 (by decide) (by decide) ?_
      refine z_aload_n C 0 dX7_shopOf_84 rfl ?_
      refine mg_14 C dX7_shopOf_85 ?_
      refine z_iload_n C 1 dX7_shopOf_88 rfl ?_
      refine ml_14 C j rfl (by first | assumption | omega) dX7_shopOf_89 ?_
      refine z_iret C0 dX7_shopOf_90 ?_
      subst h16_4
      exact mpo.ok (by simp [kShopOf, h5, show inR 4 6 = true from rfl]) (by rw [nI_clamp (by omega)]; rfl) rfl
    refine z_case (5) (fun h16_5 => ?_) (fun h16_5 => ?_)
    · refine z_tabIn C (5) (75) 91 h16_5 dX7_shopOf_16 (by decide) (by decide) ?_
      refine z_aload_n C 0 dX7_shopOf_91 rfl ?_
      refine z_iload_n C 1 dX7_shopOf_92 rfl ?_
      refine z_callV1 C (c_X7_asked l E _ hj6 (hsm j hj)) ⟨rfl, rfl⟩ rfl rfl q_X7_131 ⟨by decide, by decide⟩ (Nat.le_of_ble_eq_true rfl) dX7_shopOf_93 (fun v F9 hp => ?_)
      obtain ⟨rfl, e9⟩ := hp
      rw [e9]
      clear e9 F9
      refine z_iret C0 dX7_shopOf_96 ?_
      subst h16_5
      exact mpo.ok (by simp [kShopOf, h5, show inR 5 6 = true from rfl]) (by rw [nI_clamp (by omega)]; rfl) rfl
    refine z_tabOut C 97 (by have q0 := lv_neT (a := (0)) h16_0 rfl; have q1 := lv_neT (a := (1)) h16_1 rfl; have q2 := lv_neT (a := (2)) h16_2 rfl; have q3 := lv_neT (a := (3)) h16_3 rfl; have q4 := lv_neT (a := (4)) h16_4 rfl; have q5 := lv_neT (a := (5)) h16_5 rfl; omega) dX7_shopOf_16 (by decide) ?_
    refine z_aload_n C 0 dX7_shopOf_97 rfl ?_
    refine z_bipush C (v := (-5)) dX7_shopOf_98 rfl ?_
    refine z_callV1 C (c_X7_no l E _ (-5) 5 (by decide) (by decide) (by decide)) ⟨rfl, rfl⟩ rfl rfl q_X7_124 ⟨by decide, by decide⟩ (Nat.le_of_ble_eq_true rfl) dX7_shopOf_100 (fun v F9 hp => ?_)
    obtain ⟨rfl, e9⟩ := hp
    rw [e9]
    clear e9 F9
    refine z_iret C0 dX7_shopOf_103 ?_
    exact mpo.ref (by simp [kShopOf, h5, inR6 h16_0 h16_1 h16_2 h16_3 h16_4 h16_5]) (by decide)
  · skip
    have h5 := bI_0 h5
    refine z_aload_n C 0 dX7_shopOf_8 rfl ?_
    refine z_bipush C (v := (-5)) dX7_shopOf_9 rfl ?_
    refine z_callV1 C (c_X7_no l E _ (-5) 5 (by decide) (by decide) (by decide)) ⟨rfl, rfl⟩ rfl rfl q_X7_124 ⟨by decide, by decide⟩ (Nat.le_of_ble_eq_true rfl) dX7_shopOf_11 (fun v F9 hp => ?_)
    obtain ⟨rfl, e9⟩ := hp
    rw [e9]
    clear e9 F9
    refine z_iret C0 dX7_shopOf_14 ?_
    exact mpo.ref (by simp [kShopOf, h5]) (by decide)
set_option maxRecDepth 100000 in
set_option maxHeartbeats 4000000 in
theorem c_X7_childOf (l : Launch) (E : zE) (M : zM) (hz : gz M.1) (p w : Int32) : MM l E yX7_childOf cX7_childOf 3 (some .int) 2 [.ref (madr E.2.2.1 (0, 0, 0)), .int (p), .int (w)] (M) (mpo M (kChildOf M.1 p w) (aChildOf (M.1.2.2 p.toNatClampNeg) w) (fun M2 => M2 = M)) := by
  refine MM.mk kq_X7 (Nat.le_of_ble_eq_true rfl) (fun K s C0 => ?_)
  have C := C0.c
  obtain ⟨⟨eS, lS⟩, ⟨eC, lC⟩⟩ := id hz
  refine z_aload_n C 0 dX7_childOf_0 rfl ?_
  refine z_iload_n C 1 dX7_childOf_1 rfl ?_
  refine z_callV1 C (c_X7_isChild l E _ _) ⟨rfl, rfl⟩ rfl rfl q_X7_142 ⟨by decide, by decide⟩ (Nat.le_of_ble_eq_true rfl) dX7_childOf_2 (fun v F9 hp => ?_)
  obtain ⟨rfl, e9⟩ := hp
  rw [e9]
  clear e9 F9
  refine z_if_ne C 15 dX7_childOf_5 (by decide) (fun h5 => ?_) (fun h5 => ?_)
  · skip
    have h5 := bI_1 h5
    obtain ⟨c, hc, rfl⟩ := inR_of (n := nC M.1) (by rw [← eC]; exact h5) (by omega)
    have hc6 : c < 6 := by omega
    have ec : (nI c).toNatClampNeg = c := nI_clamp (by omega)
    refine z_iload_n C 2 dX7_childOf_15 rfl ?_
    refine z_case (0) (fun h16_0 => ?_) (fun h16_0 => ?_)
    · refine z_tabIn C (0) (40) 56 h16_0 dX7_childOf_16 (by decide) (by decide) ?_
      refine z_aload_n C 0 dX7_childOf_56 rfl ?_
      refine mg_15 C dX7_childOf_57 ?_
      refine z_iload_n C 1 dX7_childOf_60 rfl ?_
      refine ml_15 C c rfl (by first | assumption | omega) dX7_childOf_61 ?_
      refine z_iret C0 dX7_childOf_62 ?_
      subst h16_0
      exact mpo.ok (by simp [kChildOf, h5, show inR 0 6 = true from rfl]) (by rw [nI_clamp (by omega)]; rfl) rfl
    refine z_case (1) (fun h16_1 => ?_) (fun h16_1 => ?_)
    · refine z_tabIn C (1) (47) 63 h16_1 dX7_childOf_16 (by decide) (by decide) ?_
      refine z_aload_n C 0 dX7_childOf_63 rfl ?_
      refine mg_16 C dX7_childOf_64 ?_
      refine z_iload_n C 1 dX7_childOf_67 rfl ?_
      refine ml_16 C c rfl (by first | assumption | omega) dX7_childOf_68 ?_
      refine z_iret C0 dX7_childOf_69 ?_
      subst h16_1
      exact mpo.ok (by simp [kChildOf, h5, show inR 1 6 = true from rfl]) (by rw [nI_clamp (by omega)]; rfl) rfl
    refine z_case (2) (fun h16_2 => ?_) (fun h16_2 => ?_)
    · refine z_tabIn C (2) (54) 70 h16_2 dX7_childOf_16 (by decide) (by decide) ?_
      refine z_aload_n C 0 dX7_childOf_70 rfl ?_
      refine mg_17 C dX7_childOf_71 ?_
      refine z_iload_n C 1 dX7_childOf_74 rfl ?_
      refine ml_17 C c rfl (by first | assumption | omega) dX7_childOf_75 ?_
      refine z_iret C0 dX7_childOf_76 ?_
      subst h16_2
      exact mpo.ok (by simp [kChildOf, h5, show inR 2 6 = true from rfl]) (by rw [nI_clamp (by omega)]; rfl) rfl
    refine z_case (3) (fun h16_3 => ?_) (fun h16_3 => ?_)
    · refine z_tabIn C (3) (61) 77 h16_3 dX7_childOf_16 (by decide) (by decide) ?_
      refine z_aload_n C 0 dX7_childOf_77 rfl ?_
      refine mg_18 C dX7_childOf_78 ?_
      refine z_iload_n C 1 dX7_childOf_81 rfl ?_
      refine ml_18 C c rfl (by first | assumption | omega) dX7_childOf_82 ?_
      refine z_iret C0 dX7_childOf_83 ?_
      subst h16_3
      exact mpo.ok (by simp [kChildOf, h5, show inR 3 6 = true from rfl]) (by rw [nI_clamp (by omega)]; rfl) rfl
    refine z_case (4) (fun h16_4 => ?_) (fun h16_4 => ?_)
    · refine z_tabIn C (4) (68) 84 h16_4 dX7_childOf_16 (by decide) (by decide) ?_
      refine z_aload_n C 0 dX7_childOf_84 rfl ?_
      refine mg_19 C dX7_childOf_85 ?_
      refine z_iload_n C 1 dX7_childOf_88 rfl ?_
      refine ml_19 C c rfl (by first | assumption | omega) dX7_childOf_89 ?_
      refine z_iret C0 dX7_childOf_90 ?_
      subst h16_4
      exact mpo.ok (by simp [kChildOf, h5, show inR 4 6 = true from rfl]) (by rw [nI_clamp (by omega)]; rfl) rfl
    refine z_case (5) (fun h16_5 => ?_) (fun h16_5 => ?_)
    · refine z_tabIn C (5) (75) 91 h16_5 dX7_childOf_16 (by decide) (by decide) ?_
      refine z_aload_n C 0 dX7_childOf_91 rfl ?_
      refine mg_20 C dX7_childOf_92 ?_
      refine z_iload_n C 1 dX7_childOf_95 rfl ?_
      refine ml_20 C c rfl (by first | assumption | omega) dX7_childOf_96 ?_
      refine z_iconst C (v := 1) dX7_childOf_97 rfl ?_
      refine z_iadd C dX7_childOf_98 ?_
      refine z_iret C0 dX7_childOf_99 ?_
      subst h16_5
      exact mpo.ok (by simp [kChildOf, h5, show inR 5 6 = true from rfl]) (by rw [nI_clamp (by omega)]; rfl) rfl
    refine z_tabOut C 100 (by have q0 := lv_neT (a := (0)) h16_0 rfl; have q1 := lv_neT (a := (1)) h16_1 rfl; have q2 := lv_neT (a := (2)) h16_2 rfl; have q3 := lv_neT (a := (3)) h16_3 rfl; have q4 := lv_neT (a := (4)) h16_4 rfl; have q5 := lv_neT (a := (5)) h16_5 rfl; omega) dX7_childOf_16 (by decide) ?_
    refine z_aload_n C 0 dX7_childOf_100 rfl ?_
    refine z_bipush C (v := (-5)) dX7_childOf_101 rfl ?_
    refine z_callV1 C (c_X7_no l E _ (-5) 5 (by decide) (by decide) (by decide)) ⟨rfl, rfl⟩ rfl rfl q_X7_124 ⟨by decide, by decide⟩ (Nat.le_of_ble_eq_true rfl) dX7_childOf_103 (fun v F9 hp => ?_)
    obtain ⟨rfl, e9⟩ := hp
    rw [e9]
    clear e9 F9
    refine z_iret C0 dX7_childOf_106 ?_
    exact mpo.ref (by simp [kChildOf, h5, inR6 h16_0 h16_1 h16_2 h16_3 h16_4 h16_5]) (by decide)
  · skip
    have h5 := bI_0 h5
    refine z_aload_n C 0 dX7_childOf_8 rfl ?_
    refine z_bipush C (v := (-5)) dX7_childOf_9 rfl ?_
    refine z_callV1 C (c_X7_no l E _ (-5) 5 (by decide) (by decide) (by decide)) ⟨rfl, rfl⟩ rfl rfl q_X7_124 ⟨by decide, by decide⟩ (Nat.le_of_ble_eq_true rfl) dX7_childOf_11 (fun v F9 hp => ?_)
    obtain ⟨rfl, e9⟩ := hp
    rw [e9]
    clear e9 F9
    refine z_iret C0 dX7_childOf_14 ?_
    exact mpo.ref (by simp [kChildOf, h5]) (by decide)
set_option maxRecDepth 100000 in
set_option maxHeartbeats 4000000 in
theorem c_X7_tell (l : Launch) (E : zE) (M : zM) (hz : gz M.1) (a w v : Int32) : MM l E yX7_tell cX7_tell 5 (some .int) 2 [.ref (madr E.2.2.1 (0, 0, 0)), .int (a), .int (w), .int (v)] (M) (mpo M (kTell M.1 a w v) (M.1.2.2 a.toNatClampNeg w.toNatClampNeg) (fun M2 => M2 = mG M (gCh M.1 a.toNatClampNeg w.toNatClampNeg v))) := by
  refine MM.mk kq_X7 (Nat.le_of_ble_eq_true rfl) (fun K s C0 => ?_)
  have C := C0.c
  obtain ⟨⟨eS, lS⟩, ⟨eC, lC⟩⟩ := id hz
  refine z_aload_n C 0 dX7_tell_0 rfl ?_
  refine z_iload_n C 1 dX7_tell_1 rfl ?_
  refine z_callV1 C (c_X7_isChild l E _ _) ⟨rfl, rfl⟩ rfl rfl q_X7_142 ⟨by decide, by decide⟩ (Nat.le_of_ble_eq_true rfl) dX7_tell_2 (fun v F9 hp => ?_)
  obtain ⟨rfl, e9⟩ := hp
  rw [e9]
  clear e9 F9
  refine z_if_ne C 14 dX7_tell_5 (by decide) (fun h5 => ?_) (fun h5 => ?_)
  · skip
    have h5 := bI_1 h5
    refine z_iload_n C 2 dX7_tell_14 rfl ?_
    refine z_iconst C (v := 1) dX7_tell_15 rfl ?_
    refine z_icmp_lt C 45 dX7_tell_16 (by decide) (fun h16 => ?_) (fun h16 => ?_)
    · skip
      refine z_aload_n C 0 dX7_tell_45 rfl ?_
      refine z_bipush C (v := (-6)) dX7_tell_46 rfl ?_
      refine z_callV1 C (c_X7_no l E _ (-6) 6 (by decide) (by decide) (by decide)) ⟨rfl, rfl⟩ rfl rfl q_X7_124 ⟨by decide, by decide⟩ (Nat.le_of_ble_eq_true rfl) dX7_tell_48 (fun v F9 hp => ?_)
      obtain ⟨rfl, e9⟩ := hp
      rw [e9]
      clear e9 F9
      refine z_iret C0 dX7_tell_51 ?_
      exact mpo.ref (by simp only [kTell]; simp [h5, h16, Int32.not_le.mpr h16]) (by decide)
    · skip
      refine z_iload_n C 2 dX7_tell_19 rfl ?_
      refine z_iconst C (v := 3) dX7_tell_20 rfl ?_
      refine z_icmp_gt C 45 dX7_tell_21 (by decide) (fun h21 => ?_) (fun h21 => ?_)
      · skip
        refine z_aload_n C 0 dX7_tell_45 rfl ?_
        refine z_bipush C (v := (-6)) dX7_tell_46 rfl ?_
        refine z_callV1 C (c_X7_no l E _ (-6) 6 (by decide) (by decide) (by decide)) ⟨rfl, rfl⟩ rfl rfl q_X7_124 ⟨by decide, by decide⟩ (Nat.le_of_ble_eq_true rfl) dX7_tell_48 (fun v F9 hp => ?_)
        obtain ⟨rfl, e9⟩ := hp
        rw [e9]
        clear e9 F9
        refine z_iret C0 dX7_tell_51 ?_
        exact mpo.ref (by simp only [kTell]; simp [h5, h16, Int32.not_lt.mp h16, h21, Int32.not_le.mpr h21]) (by decide)
      · skip
        refine z_iload_n C 3 dX7_tell_24 rfl ?_
        refine z_if_lt C 45 dX7_tell_25 (by decide) (fun h25 => ?_) (fun h25 => ?_)
        · skip
          refine z_aload_n C 0 dX7_tell_45 rfl ?_
          refine z_bipush C (v := (-6)) dX7_tell_46 rfl ?_
          refine z_callV1 C (c_X7_no l E _ (-6) 6 (by decide) (by decide) (by decide)) ⟨rfl, rfl⟩ rfl rfl q_X7_124 ⟨by decide, by decide⟩ (Nat.le_of_ble_eq_true rfl) dX7_tell_48 (fun v F9 hp => ?_)
          obtain ⟨rfl, e9⟩ := hp
          rw [e9]
          clear e9 F9
          refine z_iret C0 dX7_tell_51 ?_
          exact mpo.ref (by simp only [kTell]; simp [h5, h16, Int32.not_lt.mp h16, h21, Int32.not_lt.mp h21, h25, Int32.not_le.mpr h25]) (by decide)
        · skip
          refine z_iload_n C 3 dX7_tell_28 rfl ?_
          refine z_iload_n C 2 dX7_tell_29 rfl ?_
          refine z_iconst C (v := 3) dX7_tell_30 rfl ?_
          refine z_icmp_ne C 39 dX7_tell_31 (by decide) (fun h31 => ?_) (fun h31 => ?_)
          · skip
            refine z_sipush C (v := 9999) dX7_tell_39 rfl ?_
            refine z_icmp_le C 52 dX7_tell_42 (by decide) (fun h42 => ?_) (fun h42 => ?_)
            · skip
              obtain ⟨c, hc, rfl⟩ := inR_of (n := nC M.1) (by rw [← eC]; exact h5) (by omega)
              have hc6 : c < 6 := by omega
              have ec : (nI c).toNatClampNeg = c := nI_clamp (by omega)
              refine z_iload_n C 2 dX7_tell_52 rfl ?_
              refine z_iconst C (v := 1) dX7_tell_53 rfl ?_
              refine z_icmp_ne C 66 dX7_tell_54 (by decide) (fun h54 => ?_) (fun h54 => ?_)
              · skip
                refine z_iload_n C 2 dX7_tell_66 rfl ?_
                refine z_iconst C (v := 2) dX7_tell_67 rfl ?_
                refine z_icmp_ne C 80 dX7_tell_68 (by decide) (fun h68 => ?_) (fun h68 => ?_)
                · skip
                  refine z_aload_n C 0 dX7_tell_80 rfl ?_
                  refine mg_18 C dX7_tell_81 ?_
                  refine z_iload_n C 1 dX7_tell_84 rfl ?_
                  refine ml_18 C c rfl (by first | assumption | omega) dX7_tell_85 ?_
                  refine z_istore C dX7_tell_86 (by decide) ?_
                  refine z_iload_n C 3 dX7_tell_88 rfl ?_
                  refine z_iconst C (v := 1) dX7_tell_89 rfl ?_
                  refine z_icmp_ne C 103 dX7_tell_90 (by decide) (fun h90 => ?_) (fun h90 => ?_)
                  · skip
                    refine z_iload_n C 3 dX7_tell_103 rfl ?_
                    refine z_iconst C (v := 2) dX7_tell_104 rfl ?_
                    refine z_icmp_ne C 118 dX7_tell_105 (by decide) (fun h105 => ?_) (fun h105 => ?_)
                    · skip
                      refine z_aload_n C 1 dX7_tell_118 rfl ?_
                      refine mg_18 C dX7_tell_119 ?_
                      refine z_iload_n C 2 dX7_tell_122 rfl ?_
                      refine z_iload_n C 4 dX7_tell_123 rfl ?_
                      refine ms_18 C c rfl (by first | assumption | omega) dX7_tell_124 ?_
                      refine z_iload C 0 dX7_tell_125 rfl ?_
                      refine z_iret C0 dX7_tell_127 ?_
                      have hkk : kTell M.1 (nI c) w v = 0 := by simp only [kTell]; simp [h5, h16, Int32.not_lt.mp h16, h21, Int32.not_lt.mp h21, h25, Int32.not_lt.mp h25, h31, h42, Int32.not_lt.mpr h42, h54, h68, h90, h105]
                      have hw3 : w = 3 := i_123 h54 h68 h16 (Int32.not_lt.mpr (Int32.not_lt.mp h21))
                      subst hw3
                      exact mpo.ok hkk (by rw [ec]; rfl) (by rw [ec]; rfl)
                    · exact absurd h105 h68
                  · exact absurd h90 h54
                · skip
                  refine z_aload_n C 0 dX7_tell_71 rfl ?_
                  refine mg_17 C dX7_tell_72 ?_
                  refine z_iload_n C 1 dX7_tell_75 rfl ?_
                  refine ml_17 C c rfl (by first | assumption | omega) dX7_tell_76 ?_
                  refine z_goto C 86 dX7_tell_77 (by decide) ?_
                  refine z_istore C dX7_tell_86 (by decide) ?_
                  refine z_iload_n C 3 dX7_tell_88 rfl ?_
                  refine z_iconst C (v := 1) dX7_tell_89 rfl ?_
                  refine z_icmp_ne C 103 dX7_tell_90 (by decide) (fun h90 => ?_) (fun h90 => ?_)
                  · skip
                    refine z_iload_n C 3 dX7_tell_103 rfl ?_
                    refine z_iconst C (v := 2) dX7_tell_104 rfl ?_
                    refine z_icmp_ne C 118 dX7_tell_105 (by decide) (fun h105 => ?_) (fun h105 => ?_)
                    · exact absurd h68 h105
                    · skip
                      refine z_aload_n C 1 dX7_tell_108 rfl ?_
                      refine mg_17 C dX7_tell_109 ?_
                      refine z_iload_n C 2 dX7_tell_112 rfl ?_
                      refine z_iload_n C 4 dX7_tell_113 rfl ?_
                      refine ms_17 C c rfl (by first | assumption | omega) dX7_tell_114 ?_
                      refine z_goto C 125 dX7_tell_115 (by decide) ?_
                      refine z_iload C 0 dX7_tell_125 rfl ?_
                      refine z_iret C0 dX7_tell_127 ?_
                      have hkk : kTell M.1 (nI c) w v = 0 := by simp only [kTell]; simp [h5, h16, Int32.not_lt.mp h16, h21, Int32.not_lt.mp h21, h25, Int32.not_lt.mp h25, h31, h42, Int32.not_lt.mpr h42, h54, h68, h90, h105]
                      subst h68
                      exact mpo.ok hkk (by rw [ec]; rfl) (by rw [ec]; rfl)
                  · exact absurd h90 h54
              · skip
                refine z_aload_n C 0 dX7_tell_57 rfl ?_
                refine mg_16 C dX7_tell_58 ?_
                refine z_iload_n C 1 dX7_tell_61 rfl ?_
                refine ml_16 C c rfl (by first | assumption | omega) dX7_tell_62 ?_
                refine z_goto C 86 dX7_tell_63 (by decide) ?_
                refine z_istore C dX7_tell_86 (by decide) ?_
                refine z_iload_n C 3 dX7_tell_88 rfl ?_
                refine z_iconst C (v := 1) dX7_tell_89 rfl ?_
                refine z_icmp_ne C 103 dX7_tell_90 (by decide) (fun h90 => ?_) (fun h90 => ?_)
                · exact absurd h54 h90
                · skip
                  refine z_aload_n C 1 dX7_tell_93 rfl ?_
                  refine mg_16 C dX7_tell_94 ?_
                  refine z_iload_n C 2 dX7_tell_97 rfl ?_
                  refine z_iload_n C 4 dX7_tell_98 rfl ?_
                  refine ms_16 C c rfl (by first | assumption | omega) dX7_tell_99 ?_
                  refine z_goto C 125 dX7_tell_100 (by decide) ?_
                  refine z_iload C 0 dX7_tell_125 rfl ?_
                  refine z_iret C0 dX7_tell_127 ?_
                  have hkk : kTell M.1 (nI c) w v = 0 := by simp only [kTell]; simp [h5, h16, Int32.not_lt.mp h16, h21, Int32.not_lt.mp h21, h25, Int32.not_lt.mp h25, h31, h42, Int32.not_lt.mpr h42, h54, h90]
                  subst h54
                  exact mpo.ok hkk (by rw [ec]; rfl) (by rw [ec]; rfl)
            · skip
              refine z_aload_n C 0 dX7_tell_45 rfl ?_
              refine z_bipush C (v := (-6)) dX7_tell_46 rfl ?_
              refine z_callV1 C (c_X7_no l E _ (-6) 6 (by decide) (by decide) (by decide)) ⟨rfl, rfl⟩ rfl rfl q_X7_124 ⟨by decide, by decide⟩ (Nat.le_of_ble_eq_true rfl) dX7_tell_48 (fun v F9 hp => ?_)
              obtain ⟨rfl, e9⟩ := hp
              rw [e9]
              clear e9 F9
              refine z_iret C0 dX7_tell_51 ?_
              exact mpo.ref (by simp only [kTell]; simp [h5, h16, Int32.not_lt.mp h16, h21, Int32.not_lt.mp h21, h25, Int32.not_lt.mp h25, h31, h42, Int32.not_le.mp h42]) (by decide)
          · skip
            refine z_bipush C (v := 99) dX7_tell_34 rfl ?_
            refine z_goto C 42 dX7_tell_36 (by decide) ?_
            refine z_icmp_le C 52 dX7_tell_42 (by decide) (fun h42 => ?_) (fun h42 => ?_)
            · skip
              obtain ⟨c, hc, rfl⟩ := inR_of (n := nC M.1) (by rw [← eC]; exact h5) (by omega)
              have hc6 : c < 6 := by omega
              have ec : (nI c).toNatClampNeg = c := nI_clamp (by omega)
              refine z_iload_n C 2 dX7_tell_52 rfl ?_
              refine z_iconst C (v := 1) dX7_tell_53 rfl ?_
              refine z_icmp_ne C 66 dX7_tell_54 (by decide) (fun h54 => ?_) (fun h54 => ?_)
              · skip
                refine z_iload_n C 2 dX7_tell_66 rfl ?_
                refine z_iconst C (v := 2) dX7_tell_67 rfl ?_
                refine z_icmp_ne C 80 dX7_tell_68 (by decide) (fun h68 => ?_) (fun h68 => ?_)
                · skip
                  refine z_aload_n C 0 dX7_tell_80 rfl ?_
                  refine mg_18 C dX7_tell_81 ?_
                  refine z_iload_n C 1 dX7_tell_84 rfl ?_
                  refine ml_18 C c rfl (by first | assumption | omega) dX7_tell_85 ?_
                  refine z_istore C dX7_tell_86 (by decide) ?_
                  refine z_iload_n C 3 dX7_tell_88 rfl ?_
                  refine z_iconst C (v := 1) dX7_tell_89 rfl ?_
                  refine z_icmp_ne C 103 dX7_tell_90 (by decide) (fun h90 => ?_) (fun h90 => ?_)
                  · skip
                    refine z_iload_n C 3 dX7_tell_103 rfl ?_
                    refine z_iconst C (v := 2) dX7_tell_104 rfl ?_
                    refine z_icmp_ne C 118 dX7_tell_105 (by decide) (fun h105 => ?_) (fun h105 => ?_)
                    · skip
                      refine z_aload_n C 1 dX7_tell_118 rfl ?_
                      refine mg_18 C dX7_tell_119 ?_
                      refine z_iload_n C 2 dX7_tell_122 rfl ?_
                      refine z_iload_n C 4 dX7_tell_123 rfl ?_
                      refine ms_18 C c rfl (by first | assumption | omega) dX7_tell_124 ?_
                      refine z_iload C 0 dX7_tell_125 rfl ?_
                      refine z_iret C0 dX7_tell_127 ?_
                      have hkk : kTell M.1 (nI c) w v = 0 := by simp only [kTell]; simp [h5, h16, Int32.not_lt.mp h16, h21, Int32.not_lt.mp h21, h25, Int32.not_lt.mp h25, h31, h42, Int32.not_lt.mpr h42, h54, h68, h90, h105]
                      have hw3 : w = 3 := i_123 h54 h68 h16 (Int32.not_lt.mpr (Int32.not_lt.mp h21))
                      subst hw3
                      exact mpo.ok hkk (by rw [ec]; rfl) (by rw [ec]; rfl)
                    · exact absurd h105 h68
                  · exact absurd h90 h54
                · skip
                  refine z_aload_n C 0 dX7_tell_71 rfl ?_
                  refine mg_17 C dX7_tell_72 ?_
                  refine z_iload_n C 1 dX7_tell_75 rfl ?_
                  refine ml_17 C c rfl (by first | assumption | omega) dX7_tell_76 ?_
                  refine z_goto C 86 dX7_tell_77 (by decide) ?_
                  refine z_istore C dX7_tell_86 (by decide) ?_
                  refine z_iload_n C 3 dX7_tell_88 rfl ?_
                  refine z_iconst C (v := 1) dX7_tell_89 rfl ?_
                  refine z_icmp_ne C 103 dX7_tell_90 (by decide) (fun h90 => ?_) (fun h90 => ?_)
                  · skip
                    refine z_iload_n C 3 dX7_tell_103 rfl ?_
                    refine z_iconst C (v := 2) dX7_tell_104 rfl ?_
                    refine z_icmp_ne C 118 dX7_tell_105 (by decide) (fun h105 => ?_) (fun h105 => ?_)
                    · exact absurd h68 h105
                    · skip
                      refine z_aload_n C 1 dX7_tell_108 rfl ?_
                      refine mg_17 C dX7_tell_109 ?_
                      refine z_iload_n C 2 dX7_tell_112 rfl ?_
                      refine z_iload_n C 4 dX7_tell_113 rfl ?_
                      refine ms_17 C c rfl (by first | assumption | omega) dX7_tell_114 ?_
                      refine z_goto C 125 dX7_tell_115 (by decide) ?_
                      refine z_iload C 0 dX7_tell_125 rfl ?_
                      refine z_iret C0 dX7_tell_127 ?_
                      have hkk : kTell M.1 (nI c) w v = 0 := by simp only [kTell]; simp [h5, h16, Int32.not_lt.mp h16, h21, Int32.not_lt.mp h21, h25, Int32.not_lt.mp h25, h31, h42, Int32.not_lt.mpr h42, h54, h68, h90, h105]
                      subst h68
                      exact mpo.ok hkk (by rw [ec]; rfl) (by rw [ec]; rfl)
                  · exact absurd h90 h54
              · skip
                refine z_aload_n C 0 dX7_tell_57 rfl ?_
                refine mg_16 C dX7_tell_58 ?_
                refine z_iload_n C 1 dX7_tell_61 rfl ?_
                refine ml_16 C c rfl (by first | assumption | omega) dX7_tell_62 ?_
                refine z_goto C 86 dX7_tell_63 (by decide) ?_
                refine z_istore C dX7_tell_86 (by decide) ?_
                refine z_iload_n C 3 dX7_tell_88 rfl ?_
                refine z_iconst C (v := 1) dX7_tell_89 rfl ?_
                refine z_icmp_ne C 103 dX7_tell_90 (by decide) (fun h90 => ?_) (fun h90 => ?_)
                · exact absurd h54 h90
                · skip
                  refine z_aload_n C 1 dX7_tell_93 rfl ?_
                  refine mg_16 C dX7_tell_94 ?_
                  refine z_iload_n C 2 dX7_tell_97 rfl ?_
                  refine z_iload_n C 4 dX7_tell_98 rfl ?_
                  refine ms_16 C c rfl (by first | assumption | omega) dX7_tell_99 ?_
                  refine z_goto C 125 dX7_tell_100 (by decide) ?_
                  refine z_iload C 0 dX7_tell_125 rfl ?_
                  refine z_iret C0 dX7_tell_127 ?_
                  have hkk : kTell M.1 (nI c) w v = 0 := by simp only [kTell]; simp [h5, h16, Int32.not_lt.mp h16, h21, Int32.not_lt.mp h21, h25, Int32.not_lt.mp h25, h31, h42, Int32.not_lt.mpr h42, h54, h90]
                  subst h54
                  exact mpo.ok hkk (by rw [ec]; rfl) (by rw [ec]; rfl)
            · skip
              refine z_aload_n C 0 dX7_tell_45 rfl ?_
              refine z_bipush C (v := (-6)) dX7_tell_46 rfl ?_
              refine z_callV1 C (c_X7_no l E _ (-6) 6 (by decide) (by decide) (by decide)) ⟨rfl, rfl⟩ rfl rfl q_X7_124 ⟨by decide, by decide⟩ (Nat.le_of_ble_eq_true rfl) dX7_tell_48 (fun v F9 hp => ?_)
              obtain ⟨rfl, e9⟩ := hp
              rw [e9]
              clear e9 F9
              refine z_iret C0 dX7_tell_51 ?_
              subst h31
              exact mpo.ref (by simp only [kTell]; simp [h5, h16, Int32.not_lt.mp h16, h21, Int32.not_lt.mp h21, h25, Int32.not_lt.mp h25, h42, Int32.not_le.mp h42]) (by decide)
  · skip
    have h5 := bI_0 h5
    refine z_aload_n C 0 dX7_tell_8 rfl ?_
    refine z_iconst C (v := (-1)) dX7_tell_9 rfl ?_
    refine z_callV1 C (c_X7_no l E _ (-1) 1 (by decide) (by decide) (by decide)) ⟨rfl, rfl⟩ rfl rfl q_X7_124 ⟨by decide, by decide⟩ (Nat.le_of_ble_eq_true rfl) dX7_tell_10 (fun v F9 hp => ?_)
    obtain ⟨rfl, e9⟩ := hp
    rw [e9]
    clear e9 F9
    refine z_iret C0 dX7_tell_13 ?_
    exact mpo.ref (by simp [kTell, h5]) (by decide)
set_option maxRecDepth 100000 in
set_option maxHeartbeats 4000000 in
theorem c_X7_keeps (l : Launch) (E : zE) (M : zM) (hz : gz M.1) (a p : Int32) : MM l E yX7_keeps cX7_keeps 4 (some .int) 2 [.ref (madr E.2.2.1 (0, 0, 0)), .int (a), .int (p)] (M) (mpo M (kKeeps M.1 a p) (M.1.2.2 a.toNatClampNeg 5) (fun M2 => M2 = mG M (gCh M.1 a.toNatClampNeg 5 p))) := by
  refine MM.mk kq_X7 (Nat.le_of_ble_eq_true rfl) (fun K s C0 => ?_)
  have C := C0.c
  obtain ⟨⟨eS, lS⟩, ⟨eC, lC⟩⟩ := id hz
  refine z_aload_n C 0 dX7_keeps_0 rfl ?_
  refine z_iload_n C 1 dX7_keeps_1 rfl ?_
  refine z_callV1 C (c_X7_isChild l E _ _) ⟨rfl, rfl⟩ rfl rfl q_X7_142 ⟨by decide, by decide⟩ (Nat.le_of_ble_eq_true rfl) dX7_keeps_2 (fun v F9 hp => ?_)
  obtain ⟨rfl, e9⟩ := hp
  rw [e9]
  clear e9 F9
  refine z_if_eq C 21 dX7_keeps_5 (by decide) (fun h5 => ?_) (fun h5 => ?_)
  · skip
    have h5 := bI_0 h5
    refine z_aload_n C 0 dX7_keeps_21 rfl ?_
    refine z_iconst C (v := (-1)) dX7_keeps_22 rfl ?_
    refine z_callV1 C (c_X7_noTen l E _ (-1) 1 (by decide) (by decide) (by decide)) ⟨rfl, rfl⟩ rfl rfl q_X7_145 ⟨by decide, by decide⟩ (Nat.le_of_ble_eq_true rfl) dX7_keeps_23 (fun v F9 hp => ?_)
    obtain ⟨rfl, e9⟩ := hp
    rw [e9]
    clear e9 F9
    refine z_iret C0 dX7_keeps_26 ?_
    exact mpo.ref (by simp [kKeeps, h5]) (by decide)
  · skip
    have h5 := bI_1 h5
    refine z_iload_n C 2 dX7_keeps_8 rfl ?_
    refine z_iconst C (v := (-1)) dX7_keeps_9 rfl ?_
    refine z_icmp_eq C 27 dX7_keeps_10 (by decide) (fun h10 => ?_) (fun h10 => ?_)
    · skip
      obtain ⟨c, hc, rfl⟩ := inR_of (n := nC M.1) (by rw [← eC]; exact h5) (by omega)
      have hc6 : c < 6 := by omega
      have ec : (nI c).toNatClampNeg = c := nI_clamp (by omega)
      refine z_aload_n C 0 dX7_keeps_27 rfl ?_
      refine mg_20 C dX7_keeps_28 ?_
      refine z_iload_n C 1 dX7_keeps_31 rfl ?_
      refine ml_20 C c rfl (by first | assumption | omega) dX7_keeps_32 ?_
      refine z_istore_n (i := 3) C dX7_keeps_33 rfl (by decide) ?_
      refine z_aload_n C 1 dX7_keeps_34 rfl ?_
      refine mg_20 C dX7_keeps_35 ?_
      refine z_iload_n C 2 dX7_keeps_38 rfl ?_
      refine z_iload_n C 3 dX7_keeps_39 rfl ?_
      refine ms_20 C c rfl (by first | assumption | omega) dX7_keeps_40 ?_
      refine z_iload_n C 0 dX7_keeps_41 rfl ?_
      refine z_iret C0 dX7_keeps_42 ?_
      exact mpo.ok (by simp [kKeeps, h5, h10]) (by rw [ec]) (by rw [ec]; rfl)
    · skip
      refine z_aload_n C 0 dX7_keeps_13 rfl ?_
      refine z_iload_n C 2 dX7_keeps_14 rfl ?_
      refine z_callV1 C (c_X7_isShop l E _ _) ⟨rfl, rfl⟩ rfl rfl q_X7_128 ⟨by decide, by decide⟩ (Nat.le_of_ble_eq_true rfl) dX7_keeps_15 (fun v F9 hp => ?_)
      obtain ⟨rfl, e9⟩ := hp
      rw [e9]
      clear e9 F9
      refine z_if_ne C 27 dX7_keeps_18 (by decide) (fun h18 => ?_) (fun h18 => ?_)
      · skip
        have h18 := bI_1 h18
        obtain ⟨c, hc, rfl⟩ := inR_of (n := nC M.1) (by rw [← eC]; exact h5) (by omega)
        have hc6 : c < 6 := by omega
        have ec : (nI c).toNatClampNeg = c := nI_clamp (by omega)
        refine z_aload_n C 0 dX7_keeps_27 rfl ?_
        refine mg_20 C dX7_keeps_28 ?_
        refine z_iload_n C 1 dX7_keeps_31 rfl ?_
        refine ml_20 C c rfl (by first | assumption | omega) dX7_keeps_32 ?_
        refine z_istore_n (i := 3) C dX7_keeps_33 rfl (by decide) ?_
        refine z_aload_n C 1 dX7_keeps_34 rfl ?_
        refine mg_20 C dX7_keeps_35 ?_
        refine z_iload_n C 2 dX7_keeps_38 rfl ?_
        refine z_iload_n C 3 dX7_keeps_39 rfl ?_
        refine ms_20 C c rfl (by first | assumption | omega) dX7_keeps_40 ?_
        refine z_iload_n C 0 dX7_keeps_41 rfl ?_
        refine z_iret C0 dX7_keeps_42 ?_
        exact mpo.ok (by simp [kKeeps, h5, h10, h18]) (by rw [ec]) (by rw [ec]; rfl)
      · skip
        have h18 := bI_0 h18
        refine z_aload_n C 0 dX7_keeps_21 rfl ?_
        refine z_iconst C (v := (-1)) dX7_keeps_22 rfl ?_
        refine z_callV1 C (c_X7_noTen l E _ (-1) 1 (by decide) (by decide) (by decide)) ⟨rfl, rfl⟩ rfl rfl q_X7_145 ⟨by decide, by decide⟩ (Nat.le_of_ble_eq_true rfl) dX7_keeps_23 (fun v F9 hp => ?_)
        obtain ⟨rfl, e9⟩ := hp
        rw [e9]
        clear e9 F9
        refine z_iret C0 dX7_keeps_26 ?_
        exact mpo.ref (by simp [kKeeps, h5, h10, h18]) (by decide)
set_option maxRecDepth 100000 in
set_option maxHeartbeats 4000000 in
theorem c_X7_ask (l : Launch) (E : zE) (M : zM) (w v : Int32) : MM l E yX7_ask cX7_ask 4 (some .int) 2 [.ref (madr E.2.2.1 (0, 0, 0)), .int (w), .int (v)] (M) (mpo M (kAsk w v) (if w = 0 then M.1.1 4 else M.1.1 5) (fun M2 => M2 = mG M (gSc M.1 (if w = 0 then 4 else 5) v))) := by
  refine MM.mk kq_X7 (Nat.le_of_ble_eq_true rfl) (fun K s C0 => ?_)
  have C := C0.c
  refine z_iload_n C 1 dX7_ask_0 rfl ?_
  refine z_if_lt C 29 dX7_ask_1 (by decide) (fun h1 => ?_) (fun h1 => ?_)
  · skip
    refine z_aload_n C 0 dX7_ask_29 rfl ?_
    refine z_bipush C (v := (-6)) dX7_ask_30 rfl ?_
    refine z_callV1 C (c_X7_no l E _ (-6) 6 (by decide) (by decide) (by decide)) ⟨rfl, rfl⟩ rfl rfl q_X7_124 ⟨by decide, by decide⟩ (Nat.le_of_ble_eq_true rfl) dX7_ask_32 (fun v F9 hp => ?_)
    obtain ⟨rfl, e9⟩ := hp
    rw [e9]
    clear e9 F9
    refine z_iret C0 dX7_ask_35 ?_
    exact mpo.ref (ask_w (fun z => by rw [z] at h1; exact absurd h1 (by decide)) (fun z => by rw [z] at h1; exact absurd h1 (by decide))) (by decide)
  · skip
    refine z_iload_n C 1 dX7_ask_4 rfl ?_
    refine z_iconst C (v := 1) dX7_ask_5 rfl ?_
    refine z_icmp_gt C 29 dX7_ask_6 (by decide) (fun h6 => ?_) (fun h6 => ?_)
    · skip
      refine z_aload_n C 0 dX7_ask_29 rfl ?_
      refine z_bipush C (v := (-6)) dX7_ask_30 rfl ?_
      refine z_callV1 C (c_X7_no l E _ (-6) 6 (by decide) (by decide) (by decide)) ⟨rfl, rfl⟩ rfl rfl q_X7_124 ⟨by decide, by decide⟩ (Nat.le_of_ble_eq_true rfl) dX7_ask_32 (fun v F9 hp => ?_)
      obtain ⟨rfl, e9⟩ := hp
      rw [e9]
      clear e9 F9
      refine z_iret C0 dX7_ask_35 ?_
      exact mpo.ref (ask_w (fun z => by rw [z] at h6; exact absurd h6 (by decide)) (fun z => by rw [z] at h6; exact absurd h6 (by decide))) (by decide)
    · skip
      refine z_iload_n C 2 dX7_ask_9 rfl ?_
      refine z_if_lt C 29 dX7_ask_10 (by decide) (fun h10 => ?_) (fun h10 => ?_)
      · skip
        refine z_aload_n C 0 dX7_ask_29 rfl ?_
        refine z_bipush C (v := (-6)) dX7_ask_30 rfl ?_
        refine z_callV1 C (c_X7_no l E _ (-6) 6 (by decide) (by decide) (by decide)) ⟨rfl, rfl⟩ rfl rfl q_X7_124 ⟨by decide, by decide⟩ (Nat.le_of_ble_eq_true rfl) dX7_ask_32 (fun v F9 hp => ?_)
        obtain ⟨rfl, e9⟩ := hp
        rw [e9]
        clear e9 F9
        refine z_iret C0 dX7_ask_35 ?_
        exact mpo.ref (ask_v (inT_f1 h10) (inT_f1 h10)) (by decide)
      · skip
        refine z_iload_n C 2 dX7_ask_13 rfl ?_
        refine z_iload_n C 1 dX7_ask_14 rfl ?_
        refine z_if_ne C 23 dX7_ask_15 (by decide) (fun h15 => ?_) (fun h15 => ?_)
        · skip
          refine z_sipush C (v := 9999) dX7_ask_23 rfl ?_
          refine z_icmp_le C 36 dX7_ask_26 (by decide) (fun h26 => ?_) (fun h26 => ?_)
          · skip
            refine z_iload_n C 1 dX7_ask_36 rfl ?_
            refine z_if_ne C 47 dX7_ask_37 (by decide) (fun h37 => ?_) (fun h37 => ?_)
            · skip
              refine z_aload_n C 0 dX7_ask_47 rfl ?_
              refine mg_5 C dX7_ask_48 ?_
              refine z_istore_n (i := 3) C dX7_ask_51 rfl (by decide) ?_
              refine z_iload_n C 2 dX7_ask_52 rfl ?_
              refine z_if_ne C 64 dX7_ask_53 (by decide) (fun h53 => ?_) (fun h53 => ?_)
              · skip
                refine z_aload_n C 1 dX7_ask_64 rfl ?_
                refine z_iload_n C 3 dX7_ask_65 rfl ?_
                refine mp_5 C dX7_ask_66 ?_
                refine z_iload_n C 0 dX7_ask_69 rfl ?_
                refine z_iret C0 dX7_ask_70 ?_
                have hw : w = 1 := (w01_y h1 (Int32.not_lt.mp h6)).resolve_left h15
                subst hw
                exact mpo.ok (by unfold kAsk; rw [if_neg (fun z => h15 z.1), if_pos ⟨rfl, inT_t h10 h26⟩]) rfl rfl
              · exact absurd h53 h15
            · exact absurd h37 h15
          · skip
            refine z_aload_n C 0 dX7_ask_29 rfl ?_
            refine z_bipush C (v := (-6)) dX7_ask_30 rfl ?_
            refine z_callV1 C (c_X7_no l E _ (-6) 6 (by decide) (by decide) (by decide)) ⟨rfl, rfl⟩ rfl rfl q_X7_124 ⟨by decide, by decide⟩ (Nat.le_of_ble_eq_true rfl) dX7_ask_32 (fun v F9 hp => ?_)
            obtain ⟨rfl, e9⟩ := hp
            rw [e9]
            clear e9 F9
            refine z_iret C0 dX7_ask_35 ?_
            have hw : w = 1 := (w01_y h1 (Int32.not_lt.mp h6)).resolve_left h15
            subst hw
            exact mpo.ref (ask_1 (inT_f2 (Int32.not_le.mp h26))) (by decide)
        · skip
          refine z_bipush C (v := 99) dX7_ask_18 rfl ?_
          refine z_goto C 26 dX7_ask_20 (by decide) ?_
          refine z_icmp_le C 36 dX7_ask_26 (by decide) (fun h26 => ?_) (fun h26 => ?_)
          · skip
            refine z_iload_n C 1 dX7_ask_36 rfl ?_
            refine z_if_ne C 47 dX7_ask_37 (by decide) (fun h37 => ?_) (fun h37 => ?_)
            · exact absurd h15 h37
            · skip
              refine z_aload_n C 0 dX7_ask_40 rfl ?_
              refine mg_4 C dX7_ask_41 ?_
              refine z_goto C 51 dX7_ask_44 (by decide) ?_
              refine z_istore_n (i := 3) C dX7_ask_51 rfl (by decide) ?_
              refine z_iload_n C 2 dX7_ask_52 rfl ?_
              refine z_if_ne C 64 dX7_ask_53 (by decide) (fun h53 => ?_) (fun h53 => ?_)
              · exact absurd h15 h53
              · skip
                refine z_aload_n C 1 dX7_ask_56 rfl ?_
                refine z_iload_n C 3 dX7_ask_57 rfl ?_
                refine mp_4 C dX7_ask_58 ?_
                refine z_goto C 69 dX7_ask_61 (by decide) ?_
                refine z_iload_n C 0 dX7_ask_69 rfl ?_
                refine z_iret C0 dX7_ask_70 ?_
                subst h15
                exact mpo.ok (by unfold kAsk; rw [if_pos ⟨rfl, inT_t h10 h26⟩]) rfl rfl
          · skip
            refine z_aload_n C 0 dX7_ask_29 rfl ?_
            refine z_bipush C (v := (-6)) dX7_ask_30 rfl ?_
            refine z_callV1 C (c_X7_no l E _ (-6) 6 (by decide) (by decide) (by decide)) ⟨rfl, rfl⟩ rfl rfl q_X7_124 ⟨by decide, by decide⟩ (Nat.le_of_ble_eq_true rfl) dX7_ask_32 (fun v F9 hp => ?_)
            obtain ⟨rfl, e9⟩ := hp
            rw [e9]
            clear e9 F9
            refine z_iret C0 dX7_ask_35 ?_
            subst h15
            exact mpo.ref (ask_0 (inT_f2 (Int32.not_le.mp h26))) (by decide)
