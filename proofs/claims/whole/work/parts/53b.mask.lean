/-! the reference: what is asked, on -/
set_option maxRecDepth 100000 in
set_option maxHeartbeats 4000000 in
theorem lp_X7_changes {l : Launch} {E : zE} {K : zK} {s : State} (M : zM) (hz : gz M.1) (hsm : sms M.1) (C0 : MR l E K cX7_changes RX7 2 s 3 (some .boolean) (fun v M2 => v = some (.int (bI (noteN M.1 (nS M.1) (M.2.2.1 40, false)).2)) ∧ M2 = mT M 40 (noteN M.1 (nS M.1) (M.2.2.1 40, false)).1)) : ∀ (n2 : Nat) (k : Nat), (nS M.1 - k < n2) → (k ≤ nS M.1) → Z K (MP E (mT M 40 (noteN M.1 k (M.2.2.1 40, false)).1) s) 4 [(0, .ref (madr E.2.2.1 (0, 0, 0))), (1, .int (bI (noteN M.1 k (M.2.2.1 40, false)).2)), (2, .int (nI k))] [] := by
  have C := C0.c
  intro n2
  induction n2 with
  | zero => intro k hk hkl; exact absurd hk (Nat.not_lt_zero _)
  | succ n2 ih =>
    intro k hk hkl
    obtain ⟨⟨eS, lS⟩, ⟨eC, lC⟩⟩ := id hz
    refine z_iload_n C 2 dX7_changes_4 rfl ?_
    refine z_aload_n C 0 dX7_changes_5 rfl ?_
    refine mg_0 C dX7_changes_6 ?_
    rw [show (mT M 40 (noteN M.1 k (M.2.2.1 40, false)).1).1.1 0 = nI (nS M.1) from eS]
    refine z_icmp_ge C 45 dX7_changes_9 (by decide) (fun h9 => ?_) (fun h9 => ?_)
    · skip
      refine z_iload_n C 1 dX7_changes_45 rfl ?_
      refine z_zret C0 (bI_nar _) dX7_changes_46 ?_
      have e : k = nS M.1 := by
        rcases Nat.lt_or_ge k (nS M.1) with q | q
        · exact absurd h9 (nI_ge q (by omega))
        · omega
      subst e
      exact ⟨rfl, rfl⟩
    · skip
      have hk2 : k < nS M.1 := by
        rcases Nat.lt_or_ge k (nS M.1) with q | q
        · exact q
        · exact absurd (nI_le q (by omega)) h9
      have hk6 : k < 6 := by omega
      refine z_aload_n C 0 dX7_changes_12 rfl ?_
      refine mg_40 C dX7_changes_13 ?_
      refine z_iload_n C 2 dX7_changes_16 rfl ?_
      refine ml_40 C k rfl (by first | assumption | omega) dX7_changes_17 ?_
      refine z_aload_n C 0 dX7_changes_18 rfl ?_
      refine z_iload_n C 2 dX7_changes_19 rfl ?_
      refine z_callV1 C (c_X7_asked l E (mT M 40 (noteN M.1 k (M.2.2.1 40, false)).1) hk6 (hsm k hk2)) ⟨rfl, rfl⟩ rfl rfl q_X7_131 ⟨by decide, by decide⟩ (Nat.le_of_ble_eq_true rfl) dX7_changes_20 (fun v F9 hp => ?_)
      obtain ⟨rfl, e9⟩ := hp
      rw [e9]
      clear e9 F9
      refine z_icmp_eq C 28 dX7_changes_23 (by decide) (fun h23 => ?_) (fun h23 => ?_)
      · skip
        refine z_aload_n C 0 dX7_changes_28 rfl ?_
        refine mg_40 C dX7_changes_29 ?_
        refine z_iload_n C 2 dX7_changes_32 rfl ?_
        refine z_aload_n C 0 dX7_changes_33 rfl ?_
        refine z_iload_n C 2 dX7_changes_34 rfl ?_
        refine z_callV1 C (c_X7_asked l E (mT M 40 (noteN M.1 k (M.2.2.1 40, false)).1) hk6 (hsm k hk2)) ⟨rfl, rfl⟩ rfl rfl q_X7_131 ⟨by decide, by decide⟩ (Nat.le_of_ble_eq_true rfl) dX7_changes_35 (fun v F9 hp => ?_)
        obtain ⟨rfl, e9⟩ := hp
        rw [e9]
        clear e9 F9
        refine ms_40 C k rfl (by first | assumption | omega) dX7_changes_38 ?_
        rw [mT_A]
        refine z_iinc C (v := nI (k + 1)) 2 dX7_changes_39 rfl (nI_1 _) (by decide) ?_
        refine z_goto C 4 dX7_changes_42 (by decide) ?_
        refine z_pick [1, 2, 0] rfl ?_
        have e : (noteN M.1 (k + 1) (M.2.2.1 40, false)).2 = (noteN M.1 k (M.2.2.1 40, false)).2 := by simp only [noteN]; rw [decide_eq_false (show ¬ ¬ askS M.1 k = (noteN M.1 k (M.2.2.1 40, false)).1 k from fun z => z h23.symm), Bool.or_false]
        have q := ih (k + 1) (by omega) (by omega)
        rw [e] at q
        exact q
      · skip
        refine z_iconst C (v := 1) dX7_changes_26 rfl ?_
        refine z_istore_n (i := 1) C dX7_changes_27 rfl (by decide) ?_
        refine z_aload_n C 1 dX7_changes_28 rfl ?_
        refine mg_40 C dX7_changes_29 ?_
        refine z_iload_n C 2 dX7_changes_32 rfl ?_
        refine z_aload_n C 1 dX7_changes_33 rfl ?_
        refine z_iload_n C 2 dX7_changes_34 rfl ?_
        refine z_callV1 C (c_X7_asked l E (mT M 40 (noteN M.1 k (M.2.2.1 40, false)).1) hk6 (hsm k hk2)) ⟨rfl, rfl⟩ rfl rfl q_X7_131 ⟨by decide, by decide⟩ (Nat.le_of_ble_eq_true rfl) dX7_changes_35 (fun v F9 hp => ?_)
        obtain ⟨rfl, e9⟩ := hp
        rw [e9]
        clear e9 F9
        refine ms_40 C k rfl (by first | assumption | omega) dX7_changes_38 ?_
        rw [mT_A]
        refine z_iinc C (v := nI (k + 1)) 2 dX7_changes_39 rfl (nI_1 _) (by decide) ?_
        refine z_goto C 4 dX7_changes_42 (by decide) ?_
        refine z_pick [2, 1, 0] rfl ?_
        have e : (noteN M.1 (k + 1) (M.2.2.1 40, false)).2 = true := by simp only [noteN]; rw [decide_eq_true (show ¬ askS M.1 k = (noteN M.1 k (M.2.2.1 40, false)).1 k from fun z => h23 z.symm), Bool.or_true]
        have q := ih (k + 1) (by omega) (by omega)
        rw [e] at q
        exact q
set_option maxRecDepth 100000 in
set_option maxHeartbeats 4000000 in
theorem c_X7_changes (l : Launch) (E : zE) (M : zM) (hz : gz M.1) (hsm : sms M.1) : MM l E yX7_changes cX7_changes 3 (some .boolean) 2 [.ref (madr E.2.2.1 (0, 0, 0))] (M) (fun v M2 => v = some (.int (bI (noteN M.1 (nS M.1) (M.2.2.1 40, false)).2)) ∧ M2 = mT M 40 (noteN M.1 (nS M.1) (M.2.2.1 40, false)).1) := by
  refine MM.mk kq_X7 (Nat.le_of_ble_eq_true rfl) (fun K s C0 => ?_)
  have C := C0.c
  obtain ⟨⟨eS, lS⟩, ⟨eC, lC⟩⟩ := id hz
  refine z_iconst C (v := 0) dX7_changes_0 rfl ?_
  refine z_istore_n (i := 1) C dX7_changes_1 rfl (by decide) ?_
  refine z_iconst C (v := 0) dX7_changes_2 rfl ?_
  refine z_istore_n (i := 2) C dX7_changes_3 rfl (by decide) ?_
  refine z_pick [2, 1, 0] rfl ?_
  have q := lp_X7_changes M hz hsm C0 (nS M.1 + 1) 0 (by omega) (by omega)
  rw [show mT M 40 (noteN M.1 0 (M.2.2.1 40, false)).1 = M from mT_id] at q
  exact q
set_option maxRecDepth 100000 in
set_option maxHeartbeats 4000000 in
theorem lp_X7_settles {l : Launch} {E : zE} {K : zK} {s : State} (M : zM) (hz : gz M.1) {N : Nat} (h : rg N M.1) (hN : N ≤ 100000000) (rule w : Int32) (hk0 : kSettles rule w = 0) (C0 : MR l E K cX7_settles RX7 7 s 7 (some .int) (mpo M (kSettles rule w) (if w = 0 then setlN rule M.1 240 else aStop (stopN rule M.1 240)) (mSm M))) : ∀ (n2 : Nat) (t : Nat) (B th : Nat → Int32), (240 - t < n2) → (t ≤ 240) → (∀ q, q < nS M.1 → th q = askS (run rule t M.1) q) → Z K (MP E (mT (mB (mT M 37 (pkN (M.2.2.1 37) M.1 74)) (run rule t M.1) B) 40 th) s) 53 [(0, .ref (madr E.2.2.1 (0, 0, 0))), (1, .int (rule)), (2, .int (w)), (3, .int (setlN rule M.1 t)), (4, .int (stopN rule M.1 t)), (5, .int (nI (t + 1)))] [] := by
  have C := C0.c
  intro n2
  induction n2 with
  | zero => intro t B th hk htl hth; exact absurd hk (Nat.not_lt_zero _)
  | succ n2 ih =>
    intro t B th hk htl hth
    obtain ⟨⟨eS, lS⟩, ⟨eC, lC⟩⟩ := id hz
    have hsm : sms M.1 := h.sm (by omega)
    refine z_iload C 5 dX7_settles_53 rfl ?_
    refine z_sipush C (v := 240) dX7_settles_55 rfl ?_
    refine z_icmp_gt C 101 dX7_settles_58 (by decide) (fun h58 => ?_) (fun h58 => ?_)
    · skip
      refine z_aload_n C 0 dX7_settles_101 rfl ?_
      refine z_callV0 C (c_X7_takesBack l E _ (g := M.1) hz (fun q hq => pkN_at hq)) ⟨rfl, rfl⟩ rfl rfl q_X7_262 ⟨by decide, by decide⟩ (Nat.le_of_ble_eq_true rfl) dX7_settles_102 (fun v F9 hp => ?_)
      obtain ⟨rfl, g2, e9, hg2⟩ := hp
      rw [e9]
      clear e9 F9
      refine z_iload_n C 2 dX7_settles_105 rfl ?_
      refine z_if_ne C 113 dX7_settles_106 (by decide) (fun h106 => ?_) (fun h106 => ?_)
      · skip
        refine z_iload C 4 dX7_settles_113 rfl ?_
        refine z_sipush C (v := 240) dX7_settles_115 rfl ?_
        refine z_icmp_ne C 125 dX7_settles_118 (by decide) (fun h118 => ?_) (fun h118 => ?_)
        · skip
          refine z_iload C 4 dX7_settles_125 rfl ?_
          refine z_iret C0 dX7_settles_127 ?_
          have e : t = 240 := by
            rcases Nat.lt_or_ge t 240 with q | q
            · exact absurd h58 (nI_nlt (a := 240) (b := t + 1) (by omega) (by omega))
            · omega
          subst e
          exact mpo.ok hk0 (by rw [if_neg h106]; rw [stop_n h118]) (mSm_se hg2)
        · skip
          refine z_iconst C (v := (-1)) dX7_settles_121 rfl ?_
          refine z_goto C 127 dX7_settles_122 (by decide) ?_
          refine z_iret C0 dX7_settles_127 ?_
          have e : t = 240 := by
            rcases Nat.lt_or_ge t 240 with q | q
            · exact absurd h58 (nI_nlt (a := 240) (b := t + 1) (by omega) (by omega))
            · omega
          subst e
          exact mpo.ok hk0 (by rw [if_neg h106]; rw [stop_240 h118]) (mSm_se hg2)
      · skip
        refine z_iload_n C 3 dX7_settles_109 rfl ?_
        refine z_goto C 127 dX7_settles_110 (by decide) ?_
        refine z_iret C0 dX7_settles_127 ?_
        have e : t = 240 := by
          rcases Nat.lt_or_ge t 240 with q | q
          · exact absurd h58 (nI_nlt (a := 240) (b := t + 1) (by omega) (by omega))
          · omega
        subst e
        exact mpo.ok hk0 (by rw [if_pos h106]) (mSm_se hg2)
    · skip
      have ht2 : t < 240 := by
        rcases Nat.lt_or_ge t 240 with q | q
        · exact q
        · exact absurd (nI_lt (a := 240) (b := t + 1) (by omega) (by omega)) h58
      have zR : gz (run rule t M.1) := sk_run.z hz
      have rR : rg (N + 6 * t) (run rule t M.1) := rg_run hz h (by omega)
      have zR1 : gz (run rule (t + 1) M.1) := sk_run.z hz
      have rR1 : rg (N + 6 * (t + 1)) (run rule (t + 1) M.1) := rg_run hz h (by omega)
      have sR1 : sms (run rule (t + 1) M.1) := rR1.sm (by omega)
      have hd6 := run_6 (rule := rule) (t := t) hz h (by omega)
      refine z_aload_n C 0 dX7_settles_61 rfl ?_
      refine mg_6 C dX7_settles_62 ?_
      refine z_istore C dX7_settles_65 (by decide) ?_
      refine z_aload_n C 1 dX7_settles_67 rfl ?_
      refine z_iload_n C 2 dX7_settles_68 rfl ?_
      refine z_callV1 C (c_X7_lives l E (mT (mB (mT M 37 (pkN (M.2.2.1 37) M.1 74)) (run rule t M.1) B) 40 th) zR rR (by omega) rule (minutes rule t (M.1, fun _ => 0, fun _ => 0)) rfl) ⟨rfl, rfl⟩ rfl rfl q_X7_243 ⟨by decide, by decide⟩ (Nat.le_of_ble_eq_true rfl) dX7_settles_69 (fun v F9 hp => ?_)
      obtain ⟨rfl, B2, e9⟩ := hp
      rw [e9, mB_T]
      clear e9 F9
      refine z_aload_n C 1 dX7_settles_72 rfl ?_
      refine z_callV0 C (c_X7_changes l E (mT (mB (mT M 37 (pkN (M.2.2.1 37) M.1 74)) (run rule (t + 1) M.1) B2) 40 th) zR1 sR1) ⟨rfl, rfl⟩ rfl rfl q_X7_268 ⟨by decide, by decide⟩ (Nat.le_of_ble_eq_true rfl) dX7_settles_73 (fun v F9 hp => ?_)
      obtain ⟨rfl, e9⟩ := hp
      rw [e9, mT_mT]
      clear e9 F9
      refine z_if_eq C 82 dX7_settles_76 (by decide) (fun h76 => ?_) (fun h76 => ?_)
      · skip
        have h76 := bI_0 h76
        refine z_aload_n C 1 dX7_settles_82 rfl ?_
        refine mg_6 C dX7_settles_83 ?_
        refine z_iload C 0 dX7_settles_86 rfl ?_
        refine z_icmp_le C 95 dX7_settles_88 (by decide) (fun h88 => ?_) (fun h88 => ?_)
        · skip
          refine z_iinc C (v := nI ((t + 1) + 1)) 6 dX7_settles_95 rfl (nI_1 _) (by decide) ?_
          refine z_goto C 53 dX7_settles_98 (by decide) ?_
          refine z_pick [2, 3, 4, 5, 6, 0] rfl ?_
          have eA : (noteN (run rule (t + 1) M.1) (nS (run rule (t + 1) M.1)) (th, false)).2 = anyN (run rule t M.1) (run rule (t + 1) M.1) (nS M.1) := by
            rw [sk_run.S]
            exact noteN_any (eqv.rf _) (by rw [sk_run.S]; exact Nat.le_refl _) (fun q hq => hth q hq)
          have q := ih (t + 1) B2 (noteN (run rule (t + 1) M.1) (nS (run rule (t + 1) M.1)) (th, false)).1 (by omega) (by omega) (fun q hq => noteN_at (by rw [sk_run.S]; exact hq))
          simp only [setlN, stopN] at q
          rw [if_neg (by rw [← eA]; exact fun z => absurd (h76.symm.trans z) (by decide)), if_pos (d6_eq hd6 h88)] at q
          exact q
        · skip
          refine z_iload C 6 dX7_settles_91 rfl ?_
          refine z_istore C dX7_settles_93 (by decide) ?_
          refine z_iinc C (v := nI ((t + 1) + 1)) 6 dX7_settles_95 rfl (nI_1 _) (by decide) ?_
          refine z_goto C 53 dX7_settles_98 (by decide) ?_
          refine z_pick [3, 4, 5, 6, 1, 0] rfl ?_
          have eA : (noteN (run rule (t + 1) M.1) (nS (run rule (t + 1) M.1)) (th, false)).2 = anyN (run rule t M.1) (run rule (t + 1) M.1) (nS M.1) := by
            rw [sk_run.S]
            exact noteN_any (eqv.rf _) (by rw [sk_run.S]; exact Nat.le_refl _) (fun q hq => hth q hq)
          have q := ih (t + 1) B2 (noteN (run rule (t + 1) M.1) (nS (run rule (t + 1) M.1)) (th, false)).1 (by omega) (by omega) (fun q hq => noteN_at (by rw [sk_run.S]; exact hq))
          simp only [setlN, stopN] at q
          rw [if_neg (by rw [← eA]; exact fun z => absurd (h76.symm.trans z) (by decide)), if_neg (d6_ne hd6 h88)] at q
          exact q
      · skip
        have h76 := bI_1 h76
        refine z_iload C 6 dX7_settles_79 rfl ?_
        refine z_istore_n (i := 3) C dX7_settles_81 rfl (by decide) ?_
        refine z_aload_n C 2 dX7_settles_82 rfl ?_
        refine mg_6 C dX7_settles_83 ?_
        refine z_iload C 1 dX7_settles_86 rfl ?_
        refine z_icmp_le C 95 dX7_settles_88 (by decide) (fun h88 => ?_) (fun h88 => ?_)
        · skip
          refine z_iinc C (v := nI ((t + 1) + 1)) 6 dX7_settles_95 rfl (nI_1 _) (by decide) ?_
          refine z_goto C 53 dX7_settles_98 (by decide) ?_
          refine z_pick [3, 4, 5, 1, 6, 0] rfl ?_
          have eA : (noteN (run rule (t + 1) M.1) (nS (run rule (t + 1) M.1)) (th, false)).2 = anyN (run rule t M.1) (run rule (t + 1) M.1) (nS M.1) := by
            rw [sk_run.S]
            exact noteN_any (eqv.rf _) (by rw [sk_run.S]; exact Nat.le_refl _) (fun q hq => hth q hq)
          have q := ih (t + 1) B2 (noteN (run rule (t + 1) M.1) (nS (run rule (t + 1) M.1)) (th, false)).1 (by omega) (by omega) (fun q hq => noteN_at (by rw [sk_run.S]; exact hq))
          simp only [setlN, stopN] at q
          rw [if_pos (eA.symm.trans h76), if_pos (d6_eq hd6 h88)] at q
          exact q
        · skip
          refine z_iload C 6 dX7_settles_91 rfl ?_
          refine z_istore C dX7_settles_93 (by decide) ?_
          refine z_iinc C (v := nI ((t + 1) + 1)) 6 dX7_settles_95 rfl (nI_1 _) (by decide) ?_
          refine z_goto C 53 dX7_settles_98 (by decide) ?_
          refine z_pick [4, 5, 6, 2, 1, 0] rfl ?_
          have eA : (noteN (run rule (t + 1) M.1) (nS (run rule (t + 1) M.1)) (th, false)).2 = anyN (run rule t M.1) (run rule (t + 1) M.1) (nS M.1) := by
            rw [sk_run.S]
            exact noteN_any (eqv.rf _) (by rw [sk_run.S]; exact Nat.le_refl _) (fun q hq => hth q hq)
          have q := ih (t + 1) B2 (noteN (run rule (t + 1) M.1) (nS (run rule (t + 1) M.1)) (th, false)).1 (by omega) (by omega) (fun q hq => noteN_at (by rw [sk_run.S]; exact hq))
          simp only [setlN, stopN] at q
          rw [if_pos (eA.symm.trans h76), if_neg (d6_ne hd6 h88)] at q
          exact q
set_option maxRecDepth 100000 in
set_option maxHeartbeats 4000000 in
theorem c_X7_settles (l : Launch) (E : zE) (M : zM) (hz : gz M.1) {N : Nat} (h : rg N M.1) (hN : N ≤ 100000000) (rule w : Int32) : MM l E yX7_settles cX7_settles 7 (some .int) 7 [.ref (madr E.2.2.1 (0, 0, 0)), .int (rule), .int (w)] (M) (mpo M (kSettles rule w) (if w = 0 then setlN rule M.1 240 else aStop (stopN rule M.1 240)) (mSm M)) := by
  refine MM.mk kq_X7 (Nat.le_of_ble_eq_true rfl) (fun K s C0 => ?_)
  have C := C0.c
  obtain ⟨⟨eS, lS⟩, ⟨eC, lC⟩⟩ := id hz
  have hsm : sms M.1 := h.sm (by omega)
  refine z_iload_n C 2 dX7_settles_0 rfl ?_
  refine z_if_lt C 9 dX7_settles_1 (by decide) (fun h1 => ?_) (fun h1 => ?_)
  · skip
    refine z_aload_n C 0 dX7_settles_9 rfl ?_
    refine z_bipush C (v := (-5)) dX7_settles_10 rfl ?_
    refine z_callV1 C (c_X7_noTen l E _ (-5) 5 (by decide) (by decide) (by decide)) ⟨rfl, rfl⟩ rfl rfl q_X7_145 ⟨by decide, by decide⟩ (Nat.le_of_ble_eq_true rfl) dX7_settles_12 (fun v F9 hp => ?_)
    obtain ⟨rfl, e9⟩ := hp
    rw [e9]
    clear e9 F9
    refine z_iret C0 dX7_settles_15 ?_
    exact mpo.ref (by unfold kSettles; rw [if_pos (w01_n (Or.inl h1))]; rfl) (by decide)
  · skip
    refine z_iload_n C 2 dX7_settles_4 rfl ?_
    refine z_iconst C (v := 1) dX7_settles_5 rfl ?_
    refine z_icmp_le C 16 dX7_settles_6 (by decide) (fun h6 => ?_) (fun h6 => ?_)
    · skip
      refine z_aload_n C 0 dX7_settles_16 rfl ?_
      refine z_iload_n C 1 dX7_settles_17 rfl ?_
      refine z_callV1 C (c_X7_isRule l E _ _) ⟨rfl, rfl⟩ rfl rfl q_X7_247 ⟨by decide, by decide⟩ (Nat.le_of_ble_eq_true rfl) dX7_settles_18 (fun v F9 hp => ?_)
      obtain ⟨rfl, e9⟩ := hp
      rw [e9]
      clear e9 F9
      refine z_if_ne C 31 dX7_settles_21 (by decide) (fun h21 => ?_) (fun h21 => ?_)
      · skip
        have h21 := bI_1 h21
        refine z_aload_n C 0 dX7_settles_31 rfl ?_
        refine z_aload_n C 0 dX7_settles_32 rfl ?_
        refine mg_37 C dX7_settles_33 ?_
        refine z_iconst C (v := 0) dX7_settles_36 rfl ?_
        refine z_callV2 C (c_allF l E _ (k2 := 37) (by omega)) ⟨rfl, rfl⟩ rfl rfl q_X7_210 ⟨by decide, by decide⟩ (Nat.le_of_ble_eq_true rfl) dX7_settles_37 (fun v F9 hp => ?_)
        obtain ⟨rfl, e9⟩ := hp
        rw [e9]
        clear e9 F9
        refine z_iconst C (v := 0) dX7_settles_40 rfl ?_
        refine z_istore_n (i := 3) C dX7_settles_41 rfl (by decide) ?_
        refine z_iconst C (v := 0) dX7_settles_42 rfl ?_
        refine z_istore C dX7_settles_43 (by decide) ?_
        refine z_aload_n C 2 dX7_settles_45 rfl ?_
        refine z_callV0 C (c_X7_changes l E (mT M 37 (pkN (M.2.2.1 37) M.1 74)) hz hsm) ⟨rfl, rfl⟩ rfl rfl q_X7_268 ⟨by decide, by decide⟩ (Nat.le_of_ble_eq_true rfl) dX7_settles_46 (fun v F9 hp => ?_)
        obtain ⟨rfl, e9⟩ := hp
        rw [e9]
        clear e9 F9
        refine z_pop C dX7_settles_49 rfl ?_
        refine z_iconst C (v := 1) dX7_settles_50 rfl ?_
        refine z_istore C dX7_settles_51 (by decide) ?_
        refine z_pick [3, 4, 5, 2, 1, 0] rfl ?_
        have hk0 : kSettles rule w = 0 := by unfold kSettles; rw [if_neg (fun z => z (w01_y h1 h6)), if_neg (by rw [h21]; decide)]
        have q := lp_X7_settles M hz h hN rule w hk0 C0 241 0 (M.2.2.1 38) (noteN M.1 (nS M.1) (M.2.2.1 40, false)).1 (by omega) (by omega) (fun q hq => noteN_at hq)
        rw [show mB (mT M 37 (pkN (M.2.2.1 37) M.1 74)) (run rule 0 M.1) (M.2.2.1 38) = (mT M 37 (pkN (M.2.2.1 37) M.1 74)) from mB_id (M := (mT M 37 (pkN (M.2.2.1 37) M.1 74)))] at q
        exact q
      · skip
        have h21 := bI_0 h21
        refine z_aload_n C 0 dX7_settles_24 rfl ?_
        refine z_bipush C (v := (-6)) dX7_settles_25 rfl ?_
        refine z_callV1 C (c_X7_noTen l E _ (-6) 6 (by decide) (by decide) (by decide)) ⟨rfl, rfl⟩ rfl rfl q_X7_145 ⟨by decide, by decide⟩ (Nat.le_of_ble_eq_true rfl) dX7_settles_27 (fun v F9 hp => ?_)
        obtain ⟨rfl, e9⟩ := hp
        rw [e9]
        clear e9 F9
        refine z_iret C0 dX7_settles_30 ?_
        exact mpo.ref (by unfold kSettles; rw [if_neg (fun z => z (w01_y h1 h6)), if_pos h21]; rfl) (by decide)
    · skip
      refine z_aload_n C 0 dX7_settles_9 rfl ?_
      refine z_bipush C (v := (-5)) dX7_settles_10 rfl ?_
      refine z_callV1 C (c_X7_noTen l E _ (-5) 5 (by decide) (by decide) (by decide)) ⟨rfl, rfl⟩ rfl rfl q_X7_145 ⟨by decide, by decide⟩ (Nat.le_of_ble_eq_true rfl) dX7_settles_12 (fun v F9 hp => ?_)
      obtain ⟨rfl, e9⟩ := hp
      rw [e9]
      clear e9 F9
      refine z_iret C0 dX7_settles_15 ?_
      exact mpo.ref (by unfold kSettles; rw [if_pos (w01_n (Or.inr (Int32.not_le.mp h6)))]; rfl) (by decide)
set_option maxRecDepth 100000 in
set_option maxHeartbeats 4000000 in
theorem c_X7_picked (l : Launch) (E : zE) (M : zM) (hz : gz M.1) {N : Nat} (h : rg N M.1) (hN : N ≤ 100000000) (a p : Int32) : MM l E yX7_picked cX7_picked 3 (some .int) 2 [.ref (madr E.2.2.1 (0, 0, 0)), .int (a), .int (p)] (M) (mpo M (kPicked M.1 a p) (aPicked (askS M.1 p.toNatClampNeg) (M.1.2.2 a.toNatClampNeg 0)) (fun M2 => M2 = M)) := by
  refine MM.mk kq_X7 (Nat.le_of_ble_eq_true rfl) (fun K s C0 => ?_)
  have C := C0.c
  obtain ⟨⟨eS, lS⟩, ⟨eC, lC⟩⟩ := id hz
  have hsm : sms M.1 := h.sm (by omega)
  refine z_aload_n C 0 dX7_picked_0 rfl ?_
  refine z_iload_n C 1 dX7_picked_1 rfl ?_
  refine z_callV1 C (c_X7_isChild l E _ _) ⟨rfl, rfl⟩ rfl rfl q_X7_142 ⟨by decide, by decide⟩ (Nat.le_of_ble_eq_true rfl) dX7_picked_2 (fun v F9 hp => ?_)
  obtain ⟨rfl, e9⟩ := hp
  rw [e9]
  clear e9 F9
  refine z_if_eq C 40 dX7_picked_5 (by decide) (fun h5 => ?_) (fun h5 => ?_)
  · skip
    have h5 := bI_0 h5
    refine z_aload_n C 0 dX7_picked_40 rfl ?_
    refine z_iconst C (v := (-1)) dX7_picked_41 rfl ?_
    refine z_callV1 C (c_X7_no l E _ (-1) 1 (by decide) (by decide) (by decide)) ⟨rfl, rfl⟩ rfl rfl q_X7_124 ⟨by decide, by decide⟩ (Nat.le_of_ble_eq_true rfl) dX7_picked_42 (fun v F9 hp => ?_)
    obtain ⟨rfl, e9⟩ := hp
    rw [e9]
    clear e9 F9
    refine z_iret C0 dX7_picked_45 ?_
    exact mpo.ref (by simp [kPicked, h5]) (by decide)
  · skip
    have h5 := bI_1 h5
    refine z_aload_n C 0 dX7_picked_8 rfl ?_
    refine z_iload_n C 2 dX7_picked_9 rfl ?_
    refine z_callV1 C (c_X7_isShop l E _ _) ⟨rfl, rfl⟩ rfl rfl q_X7_128 ⟨by decide, by decide⟩ (Nat.le_of_ble_eq_true rfl) dX7_picked_10 (fun v F9 hp => ?_)
    obtain ⟨rfl, e9⟩ := hp
    rw [e9]
    clear e9 F9
    refine z_if_eq C 40 dX7_picked_13 (by decide) (fun h13 => ?_) (fun h13 => ?_)
    · skip
      have h13 := bI_0 h13
      refine z_aload_n C 0 dX7_picked_40 rfl ?_
      refine z_iconst C (v := (-1)) dX7_picked_41 rfl ?_
      refine z_callV1 C (c_X7_no l E _ (-1) 1 (by decide) (by decide) (by decide)) ⟨rfl, rfl⟩ rfl rfl q_X7_124 ⟨by decide, by decide⟩ (Nat.le_of_ble_eq_true rfl) dX7_picked_42 (fun v F9 hp => ?_)
      obtain ⟨rfl, e9⟩ := hp
      rw [e9]
      clear e9 F9
      refine z_iret C0 dX7_picked_45 ?_
      exact mpo.ref (by simp [kPicked, h5, h13]) (by decide)
    · skip
      have h13 := bI_1 h13
      obtain ⟨c, hc, rfl⟩ := inR_of (n := nC M.1) (by rw [← eC]; exact h5) (by omega)
      have hc6 : c < 6 := by omega
      have ec : (nI c).toNatClampNeg = c := nI_clamp (by omega)
      obtain ⟨j, hj, rfl⟩ := inR_of (n := nS M.1) (by rw [← eS]; exact h13) (by omega)
      have hj6 : j < 6 := by omega
      have ej : (nI j).toNatClampNeg = j := nI_clamp (by omega)
      obtain ⟨⟨nb, hb1, hb2, eb⟩, -⟩ := h.2.1 c hc
      refine z_aload_n C 0 dX7_picked_16 rfl ?_
      refine z_iload_n C 2 dX7_picked_17 rfl ?_
      refine z_callV1 C (c_X7_asked l E _ hj6 (hsm j hj)) ⟨rfl, rfl⟩ rfl rfl q_X7_131 ⟨by decide, by decide⟩ (Nat.le_of_ble_eq_true rfl) dX7_picked_18 (fun v F9 hp => ?_)
      obtain ⟨rfl, e9⟩ := hp
      rw [e9]
      clear e9 F9
      refine z_aload_n C 0 dX7_picked_21 rfl ?_
      refine mg_15 C dX7_picked_22 ?_
      refine z_iload_n C 1 dX7_picked_25 rfl ?_
      refine ml_15 C c rfl (by first | assumption | omega) dX7_picked_26 ?_
      refine z_iadd C dX7_picked_27 ?_
      refine z_iconst C (v := 1) dX7_picked_28 rfl ?_
      refine z_isub C dX7_picked_29 ?_
      refine z_aload_n C 0 dX7_picked_30 rfl ?_
      refine mg_15 C dX7_picked_31 ?_
      refine z_iload_n C 1 dX7_picked_34 rfl ?_
      refine ml_15 C c rfl (by first | assumption | omega) dX7_picked_35 ?_
      refine z_idiv C dX7_picked_36 (by rw [eb]; exact nI_ne0 (by omega) (by omega)) ?_
      refine z_goto C 45 dX7_picked_37 (by decide) ?_
      refine z_iret C0 dX7_picked_45 ?_
      exact mpo.ok (by simp [kPicked, h5, h13]) (by rw [ec, ej]; unfold aPicked; rw [if_neg (by rw [eb]; exact nI_nlt (b := 1) (by omega) (by omega))]) rfl
set_option maxRecDepth 100000 in
set_option maxHeartbeats 4000000 in
theorem lp_X7_cheapest {l : Launch} {E : zE} {K : zK} {s : State} (M : zM) (hz : gz M.1) {N : Nat} (h : rg N M.1) (hN : N ≤ 100000000) (h4 : ¬ M.1.1 0 = 0) (C0 : MR l E K cX7_cheapest RX7 2 s 3 (some .int) (mpo M (kCheap M.1) (nI (cheapS M.1 (nS M.1))) (fun M2 => M2 = M))) : ∀ (n2 : Nat) (k : Nat), (nS M.1 - k < n2) → (k ≤ nS M.1) → (1 ≤ k) → Z K (MP E (M) s) 18 [(0, .ref (madr E.2.2.1 (0, 0, 0))), (1, .int (nI (cheapS M.1 k))), (2, .int (nI k))] [] := by
  have C := C0.c
  intro n2
  induction n2 with
  | zero => intro k hk hkl h1; exact absurd hk (Nat.not_lt_zero _)
  | succ n2 ih =>
    intro k hk hkl h1
    obtain ⟨⟨eS, lS⟩, ⟨eC, lC⟩⟩ := id hz
    have hsm : sms M.1 := h.sm (by omega)
    refine z_iload_n C 2 dX7_cheapest_18 rfl ?_
    refine z_aload_n C 0 dX7_cheapest_19 rfl ?_
    refine mg_0 C dX7_cheapest_20 ?_
    rw [eS]
    refine z_icmp_ge C 47 dX7_cheapest_23 (by decide) (fun h23 => ?_) (fun h23 => ?_)
    · skip
      refine z_iload_n C 1 dX7_cheapest_47 rfl ?_
      refine z_iret C0 dX7_cheapest_48 ?_
      have e : k = nS M.1 := by
        rcases Nat.lt_or_ge k (nS M.1) with q | q
        · exact absurd h23 (nI_ge q (by omega))
        · omega
      subst e
      exact mpo.ok (by simp [kCheap, h4]) rfl rfl
    · skip
      have hk2 : k < nS M.1 := by
        rcases Nat.lt_or_ge k (nS M.1) with q | q
        · exact q
        · exact absurd (nI_le q (by omega)) h23
      have hk6 : k < 6 := by omega
      have hbk : cheapS M.1 k < k := cheapS_lt (by omega)
      refine z_aload_n C 0 dX7_cheapest_26 rfl ?_
      refine z_iload_n C 2 dX7_cheapest_27 rfl ?_
      refine z_callV1 C (c_X7_asked l E _ hk6 (hsm k hk2)) ⟨rfl, rfl⟩ rfl rfl q_X7_131 ⟨by decide, by decide⟩ (Nat.le_of_ble_eq_true rfl) dX7_cheapest_28 (fun v F9 hp => ?_)
      obtain ⟨rfl, e9⟩ := hp
      rw [e9]
      clear e9 F9
      refine z_aload_n C 0 dX7_cheapest_31 rfl ?_
      refine z_iload_n C 1 dX7_cheapest_32 rfl ?_
      refine z_callV1 C (c_X7_asked l E _ (j := cheapS M.1 k) (by omega) (hsm _ (by omega))) ⟨rfl, rfl⟩ rfl rfl q_X7_131 ⟨by decide, by decide⟩ (Nat.le_of_ble_eq_true rfl) dX7_cheapest_33 (fun v F9 hp => ?_)
      obtain ⟨rfl, e9⟩ := hp
      rw [e9]
      clear e9 F9
      refine z_icmp_ge C 41 dX7_cheapest_36 (by decide) (fun h36 => ?_) (fun h36 => ?_)
      · skip
        refine z_iinc C (v := nI (k + 1)) 2 dX7_cheapest_41 rfl (nI_1 _) (by decide) ?_
        refine z_goto C 18 dX7_cheapest_44 (by decide) ?_
        refine z_pick [1, 2, 0] rfl ?_
        have q := ih (k + 1) (by omega) (by omega) (by omega)
        simp only [cheapS] at q
        rw [if_neg (Int32.not_lt.mpr h36)] at q
        exact q
      · skip
        refine z_iload_n C 2 dX7_cheapest_39 rfl ?_
        refine z_istore_n (i := 1) C dX7_cheapest_40 rfl (by decide) ?_
        refine z_iinc C (v := nI (k + 1)) 2 dX7_cheapest_41 rfl (nI_1 _) (by decide) ?_
        refine z_goto C 18 dX7_cheapest_44 (by decide) ?_
        refine z_pick [2, 1, 0] rfl ?_
        have q := ih (k + 1) (by omega) (by omega) (by omega)
        simp only [cheapS] at q
        rw [if_pos (Int32.not_le.mp h36)] at q
        exact q
set_option maxRecDepth 100000 in
set_option maxHeartbeats 4000000 in
theorem c_X7_cheapest (l : Launch) (E : zE) (M : zM) (hz : gz M.1) {N : Nat} (h : rg N M.1) (hN : N ≤ 100000000) : MM l E yX7_cheapest cX7_cheapest 3 (some .int) 2 [.ref (madr E.2.2.1 (0, 0, 0))] (M) (mpo M (kCheap M.1) (nI (cheapS M.1 (nS M.1))) (fun M2 => M2 = M)) := by
  refine MM.mk kq_X7 (Nat.le_of_ble_eq_true rfl) (fun K s C0 => ?_)
  have C := C0.c
  obtain ⟨⟨eS, lS⟩, ⟨eC, lC⟩⟩ := id hz
  have hsm : sms M.1 := h.sm (by omega)
  refine z_aload_n C 0 dX7_cheapest_0 rfl ?_
  refine mg_0 C dX7_cheapest_1 ?_
  refine z_if_ne C 14 dX7_cheapest_4 (by decide) (fun h4 => ?_) (fun h4 => ?_)
  · skip
    have h0 : 0 < nS M.1 := by
      rcases Nat.eq_zero_or_pos (nS M.1) with q | q
      · exact absurd (eS.trans (by rw [q]; rfl)) h4
      · exact q
    refine z_iconst C (v := 0) dX7_cheapest_14 rfl ?_
    refine z_istore_n (i := 1) C dX7_cheapest_15 rfl (by decide) ?_
    refine z_iconst C (v := 1) dX7_cheapest_16 rfl ?_
    refine z_istore_n (i := 2) C dX7_cheapest_17 rfl (by decide) ?_
    refine z_pick [2, 1, 0] rfl ?_
    have q := lp_X7_cheapest M hz h hN h4 C0 (nS M.1 + 1) 1 (by omega) (by omega) (by omega)
    rw [cheapS_1] at q
    exact q
  · skip
    refine z_aload_n C 0 dX7_cheapest_7 rfl ?_
    refine z_bipush C (v := (-5)) dX7_cheapest_8 rfl ?_
    refine z_callV1 C (c_X7_no l E _ (-5) 5 (by decide) (by decide) (by decide)) ⟨rfl, rfl⟩ rfl rfl q_X7_124 ⟨by decide, by decide⟩ (Nat.le_of_ble_eq_true rfl) dX7_cheapest_10 (fun v F9 hp => ?_)
    obtain ⟨rfl, e9⟩ := hp
    rw [e9]
    clear e9 F9
    refine z_iret C0 dX7_cheapest_13 ?_
    exact mpo.ref (by simp [kCheap, h4]) (by decide)
set_option maxRecDepth 100000 in
set_option maxHeartbeats 4000000 in
theorem c_X7_dealsIn (l : Launch) (E : zE) (M : zM) (hz : gz M.1) {N : Nat} (h : rg N M.1) (hN : N ≤ 100000000) (rule : Int32) {nn : Nat} (hnn : nn ≤ 240) : MM l E yX7_dealsIn cX7_dealsIn 3 (some .int) 8 [.ref (madr E.2.2.1 (0, 0, 0)), .int (rule), .int (nI nn)] (M) (fun v M2 => v = some (.int ((run rule nn M.1).1 6 - M.1.1 6)) ∧ mSm M M2) := by
  refine MM.mk kq_X7 (Nat.le_of_ble_eq_true rfl) (fun K s C0 => ?_)
  have C := C0.c
  refine z_aload_n C 0 dX7_dealsIn_0 rfl ?_
  refine z_iload_n C 1 dX7_dealsIn_1 rfl ?_
  refine z_iload_n C 2 dX7_dealsIn_2 rfl ?_
  refine z_callV2 C (c_X7_tries l E _ hz h rule (n := nn) (by omega) (by omega)) ⟨rfl, rfl⟩ rfl rfl q_X7_259 ⟨by decide, by decide⟩ (Nat.le_of_ble_eq_true rfl) dX7_dealsIn_3 (fun v F9 hp => ?_)
  obtain ⟨rfl, B, e9⟩ := hp
  rw [e9]
  clear e9 F9
  have zR : gz (run rule nn M.1) := sk_run.z hz
  have rR : rg (N + 6 * nn) (run rule nn M.1) := rg_run hz h (by omega)
  have sR : sms (run rule nn M.1) := rR.sm (by omega)
  have eRC : nC (run rule nn M.1) = nC M.1 := sk_run.C
  have eRS : nS (run rule nn M.1) = nS M.1 := sk_run.S
  refine z_aload_n C 0 dX7_dealsIn_6 rfl ?_
  refine z_callV0 C (c_X7_takesBack l E _ (g := M.1) hz (fun q hq => mTr_37 hq)) ⟨rfl, rfl⟩ rfl rfl q_X7_262 ⟨by decide, by decide⟩ (Nat.le_of_ble_eq_true rfl) dX7_dealsIn_7 (fun v F9 hp => ?_)
  obtain ⟨rfl, g2, e9, hg2⟩ := hp
  rw [e9]
  clear e9 F9
  refine z_aload_n C 0 dX7_dealsIn_10 rfl ?_
  refine mg_39 C dX7_dealsIn_11 ?_
  refine z_iret C0 dX7_dealsIn_14 ?_
  exact ⟨rfl, mSm_tr hg2⟩
