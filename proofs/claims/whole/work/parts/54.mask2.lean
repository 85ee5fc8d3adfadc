/-! the reference: what is asked, the next -/
theorem ink_0 (M : zM) : mSm M (mK M 4 (M.1.1 4)) := by
  have e : mK M 4 (M.1.1 4) = M := by unfold mK gSc; rw [upd_self]
  rw [e]; exact mSm.rf M
theorem ink_e {M X : zM} (h : mSm M (mK X 4 (M.1.1 4))) (v : Int32) : eqv (mK X 4 v).1 (gSc M.1 4 v) := by
  have h2 := e_sc (k := 4) (v := v) h.1 (by decide) (by decide)
  have e : gSc (mK X 4 (M.1.1 4)).1 4 v = (mK X 4 v).1 := by unfold mK gSc; rw [upd_upd]
  rw [e] at h2
  exact h2
theorem ink_s {M X Y : zM} {v : Int32} (h : mSm M (mK X 4 (M.1.1 4))) (h2 : mSm (mK X 4 v) Y) : mSm M (mK Y 4 (M.1.1 4)) := by
  refine ⟨?_, fun k hk => (h2.2.1 k hk).trans (h.2.1 k hk), fun k hk => (h2.2.2.1 k hk).trans (h.2.2.1 k hk), h2.2.2.2.trans h.2.2.2⟩
  have h3 := e_sc (k := 4) (v := M.1.1 4) h2.1 (by decide) (by decide)
  have e : gSc (mK X 4 v).1 4 (M.1.1 4) = (mK X 4 (M.1.1 4)).1 := by unfold mK gSc; rw [upd_upd]
  rw [e] at h3
  exact h3.tr h.1
theorem pick_5 (g : zGc) (c : Nat) : (makes g c 1).1 5 = g.1 5 - mnI (g.2.2 c 0) (g.1 5) := rfl
theorem pick_1 (g : zGc) (c : Nat) : (makes g c 1).2.2 c 1 = mn9 (g.2.2 c 1 + mnI (g.2.2 c 0) (g.1 5)) := by
  show (gAdd (gSc g 5 (g.1 5 - mnI (g.2.2 c 0) (g.1 5))) c (mnI (g.2.2 c 0) (g.1 5)) 0).2.2 c 1 = _
  simp [gAdd, gCh, gSc, va_up, upd]
theorem heapN_lt {rule v : Int32} {g : zGc} : ∀ {t w : Nat}, heapN rule v g t = some w → w < t
  | 0, w, h => by cases h
  | t + 1, w, h => by
    simp only [heapN] at h
    cases hq : heapN rule v g t with
    | some q => rw [hq] at h; cases h; have := heapN_lt hq; omega
    | none =>
      rw [hq] at h
      simp only at h
      split at h
      · cases h; omega
      · cases h
theorem heapN_none {rule v : Int32} {g : zGc} {t : Nat} (h : oI (heapN rule v g t) = -1) (ht : t ≤ 1000 := by omega) : heapN rule v g t = none := oI_m1 (n := t) (fun {w} hw => heapN_lt hw) h ht
theorem inR9_b {w : Int32} (h : ¬ w < 11) : ¬ inR w 9 = true := by
  intro z
  obtain ⟨j, hj, rfl⟩ := inR_of (n := 9) z (by omega)
  exact h (nI_lt (b := 11) (by omega) (by omega))
def rsS (M : zM) (j : Nat) : zM := if M.2.2.1 21 j = 2 ∧ M.1.1 0 ≤ M.2.2.1 24 j then mA M 21 j 0 else M
def rsM (M : zM) : Nat → zM
  | 0 => M
  | j + 1 => rsS (rsM M j) j
theorem rsM_1 {M : zM} : ∀ {j : Nat}, (rsM M j).1 = M.1
  | 0 => rfl
  | j + 1 => by show (rsS (rsM M j) j).1 = M.1; unfold rsS; split <;> exact rsM_1
set_option maxRecDepth 100000 in
set_option maxHeartbeats 4000000 in
theorem lp_X7_money {l : Launch} {E : zE} {K : zK} {s : State} (M : zM) (hz : gz M.1) {N : Nat} (h : rg N M.1) (hN : N ≤ 100000000) (n : Int32) {nn : Nat} (en0 : n = nI nn) (hnn : nn ≤ 240) (h4 : inT n 240 = true) {X : zM} (hX : mSm M X) (C0 : MR l E K cX7_money RX7 9 s 6 (some .int) (mpo M (kTime n) (aMoney ((run 0 n.toNatClampNeg M.1).1 6 - M.1.1 6) ((run 2 n.toNatClampNeg M.1).1 6 - M.1.1 6) (fsum M.1 (nC M.1))) (mSm M))) : ∀ (n2 : Nat) (c : Nat), (nC M.1 - c < n2) → (c ≤ nC M.1) → Z K (MP E (X) s) 38 [(0, .ref (madr E.2.2.1 (0, 0, 0))), (2, .int ((run 0 nn M.1).1 6 - M.1.1 6)), (3, .int ((run 2 nn M.1).1 6 - M.1.1 6)), (4, .int (fsum M.1 c)), (5, .int (nI c))] [] := by
  have C := C0.c
  intro n2
  induction n2 with
  | zero => intro c hk hkl; exact absurd hk (Nat.not_lt_zero _)
  | succ n2 ih =>
    intro c hk hkl
    obtain ⟨⟨eS, lS⟩, ⟨eC, lC⟩⟩ := id hz
    have hsm : sms M.1 := h.sm (by omega)
    refine z_iload C 4 dX7_money_38 rfl ?_
    refine z_aload_n C 0 dX7_money_40 rfl ?_
    refine mg_1 C dX7_money_41 ?_
    rw [show X.1.1 1 = nI (nC M.1) from (hX.1.1 1 (by omega)).trans eC]
    refine z_icmp_ge C 65 dX7_money_44 (by decide) (fun h44 => ?_) (fun h44 => ?_)
    · skip
      refine z_iload_n C 1 dX7_money_65 rfl ?_
      refine z_iload_n C 2 dX7_money_66 rfl ?_
      refine z_icmp_lt C 80 dX7_money_67 (by decide) (fun h67 => ?_) (fun h67 => ?_)
      · skip
        refine z_iload_n C 2 dX7_money_80 rfl ?_
        refine z_iload C 3 dX7_money_81 rfl ?_
        refine z_icmp_lt C 90 dX7_money_83 (by decide) (fun h83 => ?_) (fun h83 => ?_)
        · skip
          refine z_iconst C (v := 2) dX7_money_90 rfl ?_
          refine z_iret C0 dX7_money_91 ?_
          have e : c = nC M.1 := by
            rcases Nat.lt_or_ge c (nC M.1) with q | q
            · exact absurd h44 (nI_ge q (by omega))
            · omega
          subst e en0
          exact mpo.ok (by unfold kTime; rw [h4]; rfl) (by rw [nI_clamp (by omega)]; unfold aMoney; rw [if_neg (fun z => absurd z.1 (Int32.not_le.mpr h67)), if_neg (Int32.not_le.mpr h83)]) hX
        · skip
          refine z_iconst C (v := 1) dX7_money_86 rfl ?_
          refine z_goto C 91 dX7_money_87 (by decide) ?_
          refine z_iret C0 dX7_money_91 ?_
          have e : c = nC M.1 := by
            rcases Nat.lt_or_ge c (nC M.1) with q | q
            · exact absurd h44 (nI_ge q (by omega))
            · omega
          subst e en0
          exact mpo.ok (by unfold kTime; rw [h4]; rfl) (by rw [nI_clamp (by omega)]; unfold aMoney; rw [if_neg (fun z => absurd z.1 (Int32.not_le.mpr h67)), if_pos (Int32.not_lt.mp h83)]) hX
      · skip
        refine z_iload_n C 1 dX7_money_70 rfl ?_
        refine z_iload C 3 dX7_money_71 rfl ?_
        refine z_icmp_lt C 80 dX7_money_73 (by decide) (fun h73 => ?_) (fun h73 => ?_)
        · skip
          refine z_iload_n C 2 dX7_money_80 rfl ?_
          refine z_iload C 3 dX7_money_81 rfl ?_
          refine z_icmp_lt C 90 dX7_money_83 (by decide) (fun h83 => ?_) (fun h83 => ?_)
          · skip
            refine z_iconst C (v := 2) dX7_money_90 rfl ?_
            refine z_iret C0 dX7_money_91 ?_
            have e : c = nC M.1 := by
              rcases Nat.lt_or_ge c (nC M.1) with q | q
              · exact absurd h44 (nI_ge q (by omega))
              · omega
            subst e en0
            exact mpo.ok (by unfold kTime; rw [h4]; rfl) (by rw [nI_clamp (by omega)]; unfold aMoney; rw [if_neg (fun z => absurd z.2 (Int32.not_le.mpr h73)), if_neg (Int32.not_le.mpr h83)]) hX
          · skip
            refine z_iconst C (v := 1) dX7_money_86 rfl ?_
            refine z_goto C 91 dX7_money_87 (by decide) ?_
            refine z_iret C0 dX7_money_91 ?_
            have e : c = nC M.1 := by
              rcases Nat.lt_or_ge c (nC M.1) with q | q
              · exact absurd h44 (nI_ge q (by omega))
              · omega
            subst e en0
            exact mpo.ok (by unfold kTime; rw [h4]; rfl) (by rw [nI_clamp (by omega)]; unfold aMoney; rw [if_neg (fun z => absurd z.2 (Int32.not_le.mpr h73)), if_pos (Int32.not_lt.mp h83)]) hX
        · skip
          refine z_iconst C (v := 0) dX7_money_76 rfl ?_
          refine z_goto C 91 dX7_money_77 (by decide) ?_
          refine z_iret C0 dX7_money_91 ?_
          have e : c = nC M.1 := by
            rcases Nat.lt_or_ge c (nC M.1) with q | q
            · exact absurd h44 (nI_ge q (by omega))
            · omega
          subst e en0
          exact mpo.ok (by unfold kTime; rw [h4]; rfl) (by rw [nI_clamp (by omega)]; unfold aMoney; rw [if_pos ⟨Int32.not_lt.mp h67, Int32.not_lt.mp h73⟩]) hX
    · skip
      have hc : c < nC M.1 := by
        rcases Nat.lt_or_ge c (nC M.1) with q | q
        · exact q
        · exact absurd (nI_le q (by omega)) h44
      have hc6 : c < 6 := by omega
      refine z_iload C 3 dX7_money_47 rfl ?_
      refine z_aload_n C 0 dX7_money_49 rfl ?_
      refine mg_18 C dX7_money_50 ?_
      refine z_iload C 4 dX7_money_53 rfl ?_
      refine ml_18 C c rfl (by first | assumption | omega) dX7_money_55 ?_
      refine z_iadd C dX7_money_56 ?_
      refine z_top (fsum M.1 (c + 1)) (by show _ = fsum M.1 c + M.1.2.2 c 3; rw [hX.1.2.2 c hc 3 (by omega)]) ?_
      refine z_istore C dX7_money_57 (by decide) ?_
      refine z_iinc C (v := nI (c + 1)) 4 dX7_money_59 rfl (nI_1 _) (by decide) ?_
      refine z_goto C 38 dX7_money_62 (by decide) ?_
      refine z_pick [2, 3, 4, 1, 0] rfl ?_
      exact ih (c + 1) (by omega) (by omega)
set_option maxRecDepth 100000 in
set_option maxHeartbeats 4000000 in
theorem c_X7_money (l : Launch) (E : zE) (M : zM) (hz : gz M.1) {N : Nat} (h : rg N M.1) (hN : N ≤ 100000000) (n : Int32) : MM l E yX7_money cX7_money 6 (some .int) 9 [.ref (madr E.2.2.1 (0, 0, 0)), .int (n)] (M) (mpo M (kTime n) (aMoney ((run 0 n.toNatClampNeg M.1).1 6 - M.1.1 6) ((run 2 n.toNatClampNeg M.1).1 6 - M.1.1 6) (fsum M.1 (nC M.1))) (mSm M)) := by
  refine MM.mk kq_X7 (Nat.le_of_ble_eq_true rfl) (fun K s C0 => ?_)
  have C := C0.c
  obtain ⟨⟨eS, lS⟩, ⟨eC, lC⟩⟩ := id hz
  have hsm : sms M.1 := h.sm (by omega)
  refine z_iload_n C 1 dX7_money_0 rfl ?_
  refine z_if_lt C 11 dX7_money_1 (by decide) (fun h1 => ?_) (fun h1 => ?_)
  · skip
    refine z_aload_n C 0 dX7_money_11 rfl ?_
    refine z_bipush C (v := (-6)) dX7_money_12 rfl ?_
    refine z_callV1 C (c_X7_no l E _ (-6) 6 (by decide) (by decide) (by decide)) ⟨rfl, rfl⟩ rfl rfl q_X7_124 ⟨by decide, by decide⟩ (Nat.le_of_ble_eq_true rfl) dX7_money_14 (fun v F9 hp => ?_)
    obtain ⟨rfl, e9⟩ := hp
    rw [e9]
    clear e9 F9
    refine z_iret C0 dX7_money_17 ?_
    exact mpo.ref (by unfold kTime; rw [inT_f1 h1]; rfl) (by decide)
  · skip
    refine z_iload_n C 1 dX7_money_4 rfl ?_
    refine z_sipush C (v := 240) dX7_money_5 rfl ?_
    refine z_icmp_le C 18 dX7_money_8 (by decide) (fun h8 => ?_) (fun h8 => ?_)
    · skip
      have h4 : inT n 240 = true := inT_t h1 h8
      obtain ⟨nn, hnn, rfl⟩ := inT_of (n := 240) h4 (by omega)
      have en : (nI nn).toNatClampNeg = nn := nI_clamp (by omega)
      refine z_aload_n C 0 dX7_money_18 rfl ?_
      refine z_iconst C (v := 0) dX7_money_19 rfl ?_
      refine z_iload_n C 1 dX7_money_20 rfl ?_
      refine z_callV2 C (c_X7_dealsIn l E M hz h hN 0 hnn) ⟨rfl, rfl⟩ rfl rfl q_X7_271 ⟨by decide, by decide⟩ (Nat.le_of_ble_eq_true rfl) dX7_money_21 (fun v F9 hp => ?_)
      obtain ⟨rfl, hS⟩ := hp
      have hz1 : gz F9.1 := hS.1.z hz
      have h1r : rg N F9.1 := h.e hS.1
      refine z_top ((run 0 nn M.1).1 6 - M.1.1 6) (rfl) ?_
      refine z_istore_n (i := 2) C dX7_money_24 rfl (by decide) ?_
      refine z_aload_n C 1 dX7_money_25 rfl ?_
      refine z_iconst C (v := 2) dX7_money_26 rfl ?_
      refine z_iload_n C 2 dX7_money_27 rfl ?_
      refine z_callV2 C (c_X7_dealsIn l E _ hz1 h1r hN 2 hnn) ⟨rfl, rfl⟩ rfl rfl q_X7_271 ⟨by decide, by decide⟩ (Nat.le_of_ble_eq_true rfl) dX7_money_28 (fun v F9 hp => ?_)
      obtain ⟨rfl, hS2⟩ := hp
      refine z_top ((run 2 nn M.1).1 6 - M.1.1 6) (by rw [(e_rung hS.1 hz).1 6 (by omega), hS.1.1 6 (by omega)]) ?_
      refine z_istore_n (i := 3) C dX7_money_31 rfl (by decide) ?_
      refine z_iconst C (v := 0) dX7_money_32 rfl ?_
      refine z_istore C dX7_money_33 (by decide) ?_
      refine z_iconst C (v := 0) dX7_money_35 rfl ?_
      refine z_istore C dX7_money_36 (by decide) ?_
      refine z_pick [4, 3, 2, 1, 0] rfl ?_
      exact lp_X7_money M hz h hN (nI nn) rfl hnn h4 (hS.tr hS2) C0 (nC M.1 + 1) 0 (by omega) (by omega)
    · skip
      refine z_aload_n C 0 dX7_money_11 rfl ?_
      refine z_bipush C (v := (-6)) dX7_money_12 rfl ?_
      refine z_callV1 C (c_X7_no l E _ (-6) 6 (by decide) (by decide) (by decide)) ⟨rfl, rfl⟩ rfl rfl q_X7_124 ⟨by decide, by decide⟩ (Nat.le_of_ble_eq_true rfl) dX7_money_14 (fun v F9 hp => ?_)
      obtain ⟨rfl, e9⟩ := hp
      rw [e9]
      clear e9 F9
      refine z_iret C0 dX7_money_17 ?_
      exact mpo.ref (by unfold kTime; rw [inT_f2 (Int32.not_le.mp h8)]; rfl) (by decide)
set_option maxRecDepth 100000 in
set_option maxHeartbeats 4000000 in
theorem lp_X7_inked {l : Launch} {E : zE} {K : zK} {s : State} (M : zM) (hz : gz M.1) {N : Nat} (h : rg N M.1) (hN : N ≤ 100000000) (n : Int32) {nn : Nat} (en0 : n = nI nn) (hnn : nn ≤ 240) (h4 : inT n 60 = true) (C0 : MR l E K cX7_inked RX7 9 s 7 (some .int) (mpo M (kInked n) (inkB M.1 n.toNatClampNeg 21).1 (mSm M))) : ∀ (n2 : Nat) (v : Nat) (X : zM), (21 - v < n2) → (v ≤ 21) → (mSm M (mK X 4 (M.1.1 4))) → Z K (MP E (X) s) 30 [(0, .ref (madr E.2.2.1 (0, 0, 0))), (1, .int (nI nn)), (2, .int (M.1.1 4)), (3, .int ((inkB M.1 nn v).1)), (4, .int ((inkB M.1 nn v).2)), (5, .int (nI v))] [] := by
  have C := C0.c
  intro n2
  induction n2 with
  | zero => intro v X hk hvl hX; exact absurd hk (Nat.not_lt_zero _)
  | succ n2 ih =>
    intro v X hk hvl hX
    obtain ⟨⟨eS, lS⟩, ⟨eC, lC⟩⟩ := id hz
    have hsm : sms M.1 := h.sm (by omega)
    refine z_iload C 5 dX7_inked_30 rfl ?_
    refine z_bipush C (v := 20) dX7_inked_32 rfl ?_
    refine z_icmp_gt C 71 dX7_inked_34 (by decide) (fun h34 => ?_) (fun h34 => ?_)
    · skip
      refine z_aload_n C 0 dX7_inked_71 rfl ?_
      refine z_iload_n C 2 dX7_inked_72 rfl ?_
      refine mp_4 C dX7_inked_73 ?_
      refine z_iload_n C 3 dX7_inked_76 rfl ?_
      refine z_iret C0 dX7_inked_77 ?_
      have e : v = 21 := by
        rcases Nat.lt_or_ge v 21 with q | q
        · exact absurd h34 (nI_nlt (a := 20) (b := v) (by omega) (by omega))
        · omega
      subst e en0
      exact mpo.ok (by unfold kInked; rw [h4]; rfl) (by rw [nI_clamp (by omega)]) hX
    · skip
      have hv2 : v < 21 := by
        rcases Nat.lt_or_ge v 21 with q | q
        · exact q
        · exact absurd (nI_lt (a := 20) (b := v) (by omega) (by omega)) h34
      have eY := ink_e hX (nI v)
      have zK : gz (gSc M.1 4 (nI v)) := (sk_sc (by decide) (by decide)).z hz
      have zY : gz (mK X 4 (nI v)).1 := eY.z zK
      have rY : rg N (mK X 4 (nI v)).1 := (rg_k4 h ⟨v, by omega, rfl⟩).e eY
      refine z_aload_n C 0 dX7_inked_37 rfl ?_
      refine z_iload C 5 dX7_inked_38 rfl ?_
      refine mp_4 C dX7_inked_40 ?_
      refine z_aload_n C 0 dX7_inked_43 rfl ?_
      refine z_iconst C (v := 2) dX7_inked_44 rfl ?_
      refine z_iload_n C 1 dX7_inked_45 rfl ?_
      refine z_callV2 C (c_X7_dealsIn l E (mK X 4 (nI v)) zY rY hN 2 hnn) ⟨rfl, rfl⟩ rfl rfl q_X7_271 ⟨by decide, by decide⟩ (Nat.le_of_ble_eq_true rfl) dX7_inked_46 (fun v F9 hp => ?_)
      obtain ⟨rfl, hS⟩ := hp
      have hX2 : mSm M (mK F9 4 (M.1.1 4)) := ink_s hX hS
      refine z_top (inkD M.1 nn v) (by unfold inkD; rw [(e_rung eY zK).1 6 (by omega), show (mK X 4 (nI v)).1.1 6 = M.1.1 6 from (show X.1.1 6 = M.1.1 6 from hX.1.1 6 (by omega))]) ?_
      refine z_istore C dX7_inked_49 (by decide) ?_
      refine z_iload C 0 dX7_inked_51 rfl ?_
      refine z_iload C 5 dX7_inked_53 rfl ?_
      refine z_icmp_le C 65 dX7_inked_55 (by decide) (fun h55 => ?_) (fun h55 => ?_)
      · skip
        refine z_iinc C (v := nI (v + 1)) 6 dX7_inked_65 rfl (nI_1 _) (by decide) ?_
        refine z_goto C 30 dX7_inked_68 (by decide) ?_
        refine z_pick [2, 3, 4, 5, 6, 0] rfl ?_
        have q := ih (v + 1) F9 (by omega) (by omega) hX2
        simp only [inkB] at q
        rw [if_neg (Int32.not_lt.mpr h55)] at q
        exact q
      · skip
        refine z_iload C 6 dX7_inked_58 rfl ?_
        refine z_istore_n (i := 3) C dX7_inked_60 rfl (by decide) ?_
        refine z_iload C 1 dX7_inked_61 rfl ?_
        refine z_istore C dX7_inked_63 (by decide) ?_
        refine z_iinc C (v := nI (v + 1)) 6 dX7_inked_65 rfl (nI_1 _) (by decide) ?_
        refine z_goto C 30 dX7_inked_68 (by decide) ?_
        refine z_pick [4, 5, 6, 2, 1, 0] rfl ?_
        have q := ih (v + 1) F9 (by omega) (by omega) hX2
        simp only [inkB] at q
        rw [if_pos (Int32.not_le.mp h55)] at q
        exact q
set_option maxRecDepth 100000 in
set_option maxHeartbeats 4000000 in
theorem c_X7_inked (l : Launch) (E : zE) (M : zM) (hz : gz M.1) {N : Nat} (h : rg N M.1) (hN : N ≤ 100000000) (n : Int32) : MM l E yX7_inked cX7_inked 7 (some .int) 9 [.ref (madr E.2.2.1 (0, 0, 0)), .int (n)] (M) (mpo M (kInked n) (inkB M.1 n.toNatClampNeg 21).1 (mSm M)) := by
  refine MM.mk kq_X7 (Nat.le_of_ble_eq_true rfl) (fun K s C0 => ?_)
  have C := C0.c
  obtain ⟨⟨eS, lS⟩, ⟨eC, lC⟩⟩ := id hz
  have hsm : sms M.1 := h.sm (by omega)
  refine z_iload_n C 1 dX7_inked_0 rfl ?_
  refine z_if_lt C 10 dX7_inked_1 (by decide) (fun h1 => ?_) (fun h1 => ?_)
  · skip
    refine z_aload_n C 0 dX7_inked_10 rfl ?_
    refine z_bipush C (v := (-6)) dX7_inked_11 rfl ?_
    refine z_callV1 C (c_X7_no l E _ (-6) 6 (by decide) (by decide) (by decide)) ⟨rfl, rfl⟩ rfl rfl q_X7_124 ⟨by decide, by decide⟩ (Nat.le_of_ble_eq_true rfl) dX7_inked_13 (fun v F9 hp => ?_)
    obtain ⟨rfl, e9⟩ := hp
    rw [e9]
    clear e9 F9
    refine z_iret C0 dX7_inked_16 ?_
    exact mpo.ref (by unfold kInked; rw [inT_f1 h1]; rfl) (by decide)
  · skip
    refine z_iload_n C 1 dX7_inked_4 rfl ?_
    refine z_bipush C (v := 60) dX7_inked_5 rfl ?_
    refine z_icmp_le C 17 dX7_inked_7 (by decide) (fun h7 => ?_) (fun h7 => ?_)
    · skip
      have h4 : inT n 60 = true := inT_t h1 h7
      obtain ⟨nn, hnn60, rfl⟩ := inT_of (n := 60) h4 (by omega)
      have hnn : nn ≤ 240 := by omega
      refine z_aload_n C 0 dX7_inked_17 rfl ?_
      refine mg_4 C dX7_inked_18 ?_
      refine z_istore_n (i := 2) C dX7_inked_21 rfl (by decide) ?_
      refine z_iconst C (v := 0) dX7_inked_22 rfl ?_
      refine z_istore_n (i := 3) C dX7_inked_23 rfl (by decide) ?_
      refine z_iconst C (v := (-1)) dX7_inked_24 rfl ?_
      refine z_istore C dX7_inked_25 (by decide) ?_
      refine z_iconst C (v := 0) dX7_inked_27 rfl ?_
      refine z_istore C dX7_inked_28 (by decide) ?_
      refine z_pick [4, 5, 3, 2, 1, 0] rfl ?_
      exact lp_X7_inked M hz h hN (nI nn) rfl hnn h4 C0 22 0 M (by omega) (by omega) (ink_0 M)
    · skip
      refine z_aload_n C 0 dX7_inked_10 rfl ?_
      refine z_bipush C (v := (-6)) dX7_inked_11 rfl ?_
      refine z_callV1 C (c_X7_no l E _ (-6) 6 (by decide) (by decide) (by decide)) ⟨rfl, rfl⟩ rfl rfl q_X7_124 ⟨by decide, by decide⟩ (Nat.le_of_ble_eq_true rfl) dX7_inked_13 (fun v F9 hp => ?_)
      obtain ⟨rfl, e9⟩ := hp
      rw [e9]
      clear e9 F9
      refine z_iret C0 dX7_inked_16 ?_
      exact mpo.ref (by unfold kInked; rw [inT_f2 (Int32.not_le.mp h7)]; rfl) (by decide)
set_option maxRecDepth 100000 in
set_option maxHeartbeats 4000000 in
theorem lp_X7_bored {l : Launch} {E : zE} {K : zK} {s : State} (M : zM) (hz : gz M.1) {N : Nat} (h : rg N M.1) (hN : N ≤ 100000000) (rule n : Int32) {nn : Nat} (en0 : n = nI nn) (hnn : nn ≤ 240) (hk0 : kBored M.1 rule n = 0) {B : Nat → Int32} (C0 : MR l E K cX7_bored RX7 8 s 5 (some .int) (mpo M (kBored M.1 rule n) (nI (boredN (run rule n.toNatClampNeg M.1) (nC M.1))) (mSm M))) : ∀ (n2 : Nat) (c : Nat), (nC M.1 - c < n2) → (c ≤ nC M.1) → (1 ≤ c) → Z K (MP E (mTr M (run rule nn M.1) B ((run rule nn M.1).1 6 - M.1.1 6)) s) 41 [(0, .ref (madr E.2.2.1 (0, 0, 0))), (3, .int (nI (boredN (run rule nn M.1) c))), (4, .int (nI c))] [] := by
  have C := C0.c
  intro n2
  induction n2 with
  | zero => intro c hk hkl h1; exact absurd hk (Nat.not_lt_zero _)
  | succ n2 ih =>
    intro c hk hkl h1
    obtain ⟨⟨eS, lS⟩, ⟨eC, lC⟩⟩ := id hz
    have hsm : sms M.1 := h.sm (by omega)
    refine z_iload C 2 dX7_bored_41 rfl ?_
    refine z_aload_n C 0 dX7_bored_43 rfl ?_
    refine mg_1 C dX7_bored_44 ?_
    rw [show (mTr M (run rule nn M.1) B ((run rule nn M.1).1 6 - M.1.1 6)).1.1 1 = nI (nC M.1) from (sk_run (rule := rule) (n := nn) (g := M.1)).2.1.trans eC]
    refine z_icmp_ge C 75 dX7_bored_47 (by decide) (fun h47 => ?_) (fun h47 => ?_)
    · skip
      refine z_aload_n C 0 dX7_bored_75 rfl ?_
      refine z_callV0 C (c_X7_takesBack l E _ (g := M.1) hz (fun q hq => mTr_37 hq)) ⟨rfl, rfl⟩ rfl rfl q_X7_262 ⟨by decide, by decide⟩ (Nat.le_of_ble_eq_true rfl) dX7_bored_76 (fun v F9 hp => ?_)
      obtain ⟨rfl, g2, e9, hg2⟩ := hp
      rw [e9]
      clear e9 F9
      refine z_iload_n C 1 dX7_bored_79 rfl ?_
      refine z_iret C0 dX7_bored_80 ?_
      have e : c = nC M.1 := by
        rcases Nat.lt_or_ge c (nC M.1) with q | q
        · exact absurd h47 (nI_ge q (by omega))
        · omega
      subst e en0
      exact mpo.ok hk0 (by rw [nI_clamp (by omega)]) (mSm_tr hg2)
    · skip
      have hc : c < nC M.1 := by
        rcases Nat.lt_or_ge c (nC M.1) with q | q
        · exact q
        · exact absurd (nI_le q (by omega)) h47
      have hc6 : c < 6 := by omega
      have hb6 : boredN (run rule nn M.1) c < 6 := Nat.lt_trans (boredN_lt h1) hc6
      refine z_aload_n C 0 dX7_bored_50 rfl ?_
      refine mg_19 C dX7_bored_51 ?_
      refine z_iload C 2 dX7_bored_54 rfl ?_
      refine ml_19 C c rfl (by first | assumption | omega) dX7_bored_56 ?_
      refine z_aload_n C 0 dX7_bored_57 rfl ?_
      refine mg_19 C dX7_bored_58 ?_
      refine z_iload_n C 1 dX7_bored_61 rfl ?_
      refine ml_19 C (boredN (run rule nn M.1) c) rfl (by first | assumption | omega) dX7_bored_62 ?_
      refine z_icmp_ge C 69 dX7_bored_63 (by decide) (fun h63 => ?_) (fun h63 => ?_)
      · skip
        refine z_iinc C (v := nI (c + 1)) 2 dX7_bored_69 rfl (nI_1 _) (by decide) ?_
        refine z_goto C 41 dX7_bored_72 (by decide) ?_
        refine z_pick [1, 2, 0] rfl ?_
        have q := ih (c + 1) (by omega) (by omega) (by omega)
        simp only [boredN] at q
        rw [if_neg (show ¬ (run rule nn M.1).2.2 c 4 < (run rule nn M.1).2.2 (boredN (run rule nn M.1) c) 4 from Int32.not_lt.mpr h63)] at q
        exact q
      · skip
        refine z_iload C 2 dX7_bored_66 rfl ?_
        refine z_istore_n (i := 3) C dX7_bored_68 rfl (by decide) ?_
        refine z_iinc C (v := nI (c + 1)) 2 dX7_bored_69 rfl (nI_1 _) (by decide) ?_
        refine z_goto C 41 dX7_bored_72 (by decide) ?_
        refine z_pick [2, 1, 0] rfl ?_
        have q := ih (c + 1) (by omega) (by omega) (by omega)
        simp only [boredN] at q
        rw [if_pos (show (run rule nn M.1).2.2 c 4 < (run rule nn M.1).2.2 (boredN (run rule nn M.1) c) 4 from Int32.not_le.mp h63)] at q
        exact q
set_option maxRecDepth 100000 in
set_option maxHeartbeats 4000000 in
theorem c_X7_bored (l : Launch) (E : zE) (M : zM) (hz : gz M.1) {N : Nat} (h : rg N M.1) (hN : N ≤ 100000000) (rule n : Int32) : MM l E yX7_bored cX7_bored 5 (some .int) 8 [.ref (madr E.2.2.1 (0, 0, 0)), .int (rule), .int (n)] (M) (mpo M (kBored M.1 rule n) (nI (boredN (run rule n.toNatClampNeg M.1) (nC M.1))) (mSm M)) := by
  refine MM.mk kq_X7 (Nat.le_of_ble_eq_true rfl) (fun K s C0 => ?_)
  have C := C0.c
  obtain ⟨⟨eS, lS⟩, ⟨eC, lC⟩⟩ := id hz
  have hsm : sms M.1 := h.sm (by omega)
  refine z_aload_n C 0 dX7_bored_0 rfl ?_
  refine mg_1 C dX7_bored_1 ?_
  refine z_if_ne C 14 dX7_bored_4 (by decide) (fun h4 => ?_) (fun h4 => ?_)
  · skip
    have h0 : 0 < nC M.1 := by
      rcases Nat.eq_zero_or_pos (nC M.1) with q | q
      · exact absurd (eC.trans (by rw [q]; rfl)) h4
      · exact q
    refine z_aload_n C 0 dX7_bored_14 rfl ?_
    refine z_iload_n C 1 dX7_bored_15 rfl ?_
    refine z_iload_n C 2 dX7_bored_16 rfl ?_
    refine z_callV2 C (c_X7_isAfternoon l E _ _ _) ⟨rfl, rfl⟩ rfl rfl q_X7_256 ⟨by decide, by decide⟩ (Nat.le_of_ble_eq_true rfl) dX7_bored_17 (fun v F9 hp => ?_)
    obtain ⟨rfl, e9⟩ := hp
    rw [e9]
    clear e9 F9
    refine z_if_ne C 30 dX7_bored_20 (by decide) (fun h20 => ?_) (fun h20 => ?_)
    · skip
      have h20 := bI_1 h20
      obtain ⟨hr4, hnt⟩ := okRN_of h20
      obtain ⟨nn, hnn, rfl⟩ := inT_of (n := 240) hnt (by omega)
      have en : (nI nn).toNatClampNeg = nn := nI_clamp (by omega)
      refine z_aload_n C 0 dX7_bored_30 rfl ?_
      refine z_iload_n C 1 dX7_bored_31 rfl ?_
      refine z_iload_n C 2 dX7_bored_32 rfl ?_
      refine z_callV2 C (c_X7_tries l E _ hz h rule (n := nn) (by omega) (by omega)) ⟨rfl, rfl⟩ rfl rfl q_X7_259 ⟨by decide, by decide⟩ (Nat.le_of_ble_eq_true rfl) dX7_bored_33 (fun v F9 hp => ?_)
      obtain ⟨rfl, B, e9⟩ := hp
      rw [e9]
      clear e9 F9
      have zR : gz (run rule nn M.1) := sk_run.z hz
      have rR : rg (N + 6 * nn) (run rule nn M.1) := rg_run hz h (by omega)
      have sR : sms (run rule nn M.1) := rR.sm (by omega)
      have eRC : nC (run rule nn M.1) = nC M.1 := sk_run.C
      have eRS : nS (run rule nn M.1) = nS M.1 := sk_run.S
      refine z_iconst C (v := 0) dX7_bored_36 rfl ?_
      refine z_istore_n (i := 3) C dX7_bored_37 rfl (by decide) ?_
      refine z_iconst C (v := 1) dX7_bored_38 rfl ?_
      refine z_istore C dX7_bored_39 (by decide) ?_
      refine z_pick [2, 1, 0] rfl ?_
      have hk0 : kBored M.1 rule (nI nn) = 0 := by simp [kBored, h4, h20]
      have q := lp_X7_bored M hz h hN rule (nI nn) rfl hnn hk0 C0 (B := B) (nC M.1 + 1) 1 (by omega) (by omega) (by omega)
      rw [boredN_1] at q
      exact q
    · skip
      have h20 := bI_0 h20
      refine z_aload_n C 0 dX7_bored_23 rfl ?_
      refine z_bipush C (v := (-6)) dX7_bored_24 rfl ?_
      refine z_callV1 C (c_X7_no l E _ (-6) 6 (by decide) (by decide) (by decide)) ⟨rfl, rfl⟩ rfl rfl q_X7_124 ⟨by decide, by decide⟩ (Nat.le_of_ble_eq_true rfl) dX7_bored_26 (fun v F9 hp => ?_)
      obtain ⟨rfl, e9⟩ := hp
      rw [e9]
      clear e9 F9
      refine z_iret C0 dX7_bored_29 ?_
      exact mpo.ref (by simp [kBored, h4, h20]) (by decide)
  · skip
    refine z_aload_n C 0 dX7_bored_7 rfl ?_
    refine z_bipush C (v := (-5)) dX7_bored_8 rfl ?_
    refine z_callV1 C (c_X7_no l E _ (-5) 5 (by decide) (by decide) (by decide)) ⟨rfl, rfl⟩ rfl rfl q_X7_124 ⟨by decide, by decide⟩ (Nat.le_of_ble_eq_true rfl) dX7_bored_10 (fun v F9 hp => ?_)
    obtain ⟨rfl, e9⟩ := hp
    rw [e9]
    clear e9 F9
    refine z_iret C0 dX7_bored_13 ?_
    exact mpo.ref (by simp [kBored, h4]) (by decide)
set_option maxRecDepth 100000 in
set_option maxHeartbeats 4000000 in
theorem lp_X7_bank {l : Launch} {E : zE} {K : zK} {s : State} (M : zM) (hz : gz M.1) {N : Nat} (h : rg N M.1) (hN : N ≤ 100000000) (n : Int32) {nn : Nat} (en0 : n = nI nn) (hnn : nn ≤ 240) (h4 : inT n 240 = true) {B : Nat → Int32} (C0 : MR l E K cX7_bank RX7 8 s 4 (some .int) (mpo M (kTime n) (bankN (run 0 n.toNatClampNeg M.1) (nC M.1)) (mSm M))) : ∀ (n2 : Nat) (c : Nat), (nC M.1 - c < n2) → (c ≤ nC M.1) → Z K (MP E (mTr M (run 0 nn M.1) B ((run 0 nn M.1).1 6 - M.1.1 6)) s) 28 [(0, .ref (madr E.2.2.1 (0, 0, 0))), (2, .int (bankN (run 0 nn M.1) c)), (3, .int (nI c))] [] := by
  have C := C0.c
  intro n2
  induction n2 with
  | zero => intro c hk hkl; exact absurd hk (Nat.not_lt_zero _)
  | succ n2 ih =>
    intro c hk hkl
    obtain ⟨⟨eS, lS⟩, ⟨eC, lC⟩⟩ := id hz
    have hsm : sms M.1 := h.sm (by omega)
    refine z_iload_n C 2 dX7_bank_28 rfl ?_
    refine z_aload_n C 0 dX7_bank_29 rfl ?_
    refine mg_1 C dX7_bank_30 ?_
    rw [show (mTr M (run 0 nn M.1) B ((run 0 nn M.1).1 6 - M.1.1 6)).1.1 1 = nI (nC M.1) from (sk_run (rule := 0) (n := nn) (g := M.1)).2.1.trans eC]
    refine z_icmp_ge C 63 dX7_bank_33 (by decide) (fun h33 => ?_) (fun h33 => ?_)
    · skip
      refine z_aload_n C 0 dX7_bank_63 rfl ?_
      refine z_callV0 C (c_X7_takesBack l E _ (g := M.1) hz (fun q hq => mTr_37 hq)) ⟨rfl, rfl⟩ rfl rfl q_X7_262 ⟨by decide, by decide⟩ (Nat.le_of_ble_eq_true rfl) dX7_bank_64 (fun v F9 hp => ?_)
      obtain ⟨rfl, g2, e9, hg2⟩ := hp
      rw [e9]
      clear e9 F9
      refine z_iload_n C 1 dX7_bank_67 rfl ?_
      refine z_iret C0 dX7_bank_68 ?_
      have e : c = nC M.1 := by
        rcases Nat.lt_or_ge c (nC M.1) with q | q
        · exact absurd h33 (nI_ge q (by omega))
        · omega
      subst e en0
      exact mpo.ok (by unfold kTime; rw [h4]; rfl) (by rw [nI_clamp (by omega)]) (mSm_tr hg2)
    · skip
      have hc : c < nC M.1 := by
        rcases Nat.lt_or_ge c (nC M.1) with q | q
        · exact q
        · exact absurd (nI_le q (by omega)) h33
      have hc6 : c < 6 := by omega
      refine z_aload_n C 0 dX7_bank_36 rfl ?_
      refine mg_16 C dX7_bank_37 ?_
      refine z_iload_n C 2 dX7_bank_40 rfl ?_
      refine ml_16 C c rfl (by first | assumption | omega) dX7_bank_41 ?_
      refine z_iload_n C 1 dX7_bank_42 rfl ?_
      refine z_icmp_le C 55 dX7_bank_43 (by decide) (fun h43 => ?_) (fun h43 => ?_)
      · skip
        refine z_iload_n C 1 dX7_bank_55 rfl ?_
        refine z_top (bankN (run 0 nn M.1) (c + 1)) (show _ = (if bankN (run 0 nn M.1) c < (run 0 nn M.1).2.2 c 1 then (run 0 nn M.1).2.2 c 1 else bankN (run 0 nn M.1) c) from (if_neg (show ¬ bankN (run 0 nn M.1) c < (run 0 nn M.1).2.2 c 1 from Int32.not_lt.mpr h43)).symm) ?_
        refine z_istore_n (i := 2) C dX7_bank_56 rfl (by decide) ?_
        refine z_iinc C (v := nI (c + 1)) 2 dX7_bank_57 rfl (nI_1 _) (by decide) ?_
        refine z_goto C 28 dX7_bank_60 (by decide) ?_
        refine z_pick [2, 1, 0] rfl ?_
        exact ih (c + 1) (by omega) (by omega)
      · skip
        refine z_aload_n C 0 dX7_bank_46 rfl ?_
        refine mg_16 C dX7_bank_47 ?_
        refine z_iload_n C 2 dX7_bank_50 rfl ?_
        refine ml_16 C c rfl (by first | assumption | omega) dX7_bank_51 ?_
        refine z_goto C 56 dX7_bank_52 (by decide) ?_
        refine z_top (bankN (run 0 nn M.1) (c + 1)) (show _ = (if bankN (run 0 nn M.1) c < (run 0 nn M.1).2.2 c 1 then (run 0 nn M.1).2.2 c 1 else bankN (run 0 nn M.1) c) from (if_pos (show bankN (run 0 nn M.1) c < (run 0 nn M.1).2.2 c 1 from Int32.not_le.mp h43)).symm) ?_
        refine z_istore_n (i := 2) C dX7_bank_56 rfl (by decide) ?_
        refine z_iinc C (v := nI (c + 1)) 2 dX7_bank_57 rfl (nI_1 _) (by decide) ?_
        refine z_goto C 28 dX7_bank_60 (by decide) ?_
        refine z_pick [2, 1, 0] rfl ?_
        exact ih (c + 1) (by omega) (by omega)
set_option maxRecDepth 100000 in
set_option maxHeartbeats 4000000 in
theorem c_X7_bank (l : Launch) (E : zE) (M : zM) (hz : gz M.1) {N : Nat} (h : rg N M.1) (hN : N ≤ 100000000) (n : Int32) : MM l E yX7_bank cX7_bank 4 (some .int) 8 [.ref (madr E.2.2.1 (0, 0, 0)), .int (n)] (M) (mpo M (kTime n) (bankN (run 0 n.toNatClampNeg M.1) (nC M.1)) (mSm M)) := by
  refine MM.mk kq_X7 (Nat.le_of_ble_eq_true rfl) (fun K s C0 => ?_)
  have C := C0.c
  obtain ⟨⟨eS, lS⟩, ⟨eC, lC⟩⟩ := id hz
  have hsm : sms M.1 := h.sm (by omega)
  refine z_iload_n C 1 dX7_bank_0 rfl ?_
  refine z_if_lt C 11 dX7_bank_1 (by decide) (fun h1 => ?_) (fun h1 => ?_)
  · skip
    refine z_aload_n C 0 dX7_bank_11 rfl ?_
    refine z_bipush C (v := (-6)) dX7_bank_12 rfl ?_
    refine z_callV1 C (c_X7_no l E _ (-6) 6 (by decide) (by decide) (by decide)) ⟨rfl, rfl⟩ rfl rfl q_X7_124 ⟨by decide, by decide⟩ (Nat.le_of_ble_eq_true rfl) dX7_bank_14 (fun v F9 hp => ?_)
    obtain ⟨rfl, e9⟩ := hp
    rw [e9]
    clear e9 F9
    refine z_iret C0 dX7_bank_17 ?_
    exact mpo.ref (by unfold kTime; rw [inT_f1 h1]; rfl) (by decide)
  · skip
    refine z_iload_n C 1 dX7_bank_4 rfl ?_
    refine z_sipush C (v := 240) dX7_bank_5 rfl ?_
    refine z_icmp_le C 18 dX7_bank_8 (by decide) (fun h8 => ?_) (fun h8 => ?_)
    · skip
      have h4 : inT n 240 = true := inT_t h1 h8
      obtain ⟨nn, hnn, rfl⟩ := inT_of (n := 240) h4 (by omega)
      have en : (nI nn).toNatClampNeg = nn := nI_clamp (by omega)
      refine z_aload_n C 0 dX7_bank_18 rfl ?_
      refine z_iconst C (v := 0) dX7_bank_19 rfl ?_
      refine z_iload_n C 1 dX7_bank_20 rfl ?_
      refine z_callV2 C (c_X7_tries l E _ hz h 0 (n := nn) (by omega) (by omega)) ⟨rfl, rfl⟩ rfl rfl q_X7_259 ⟨by decide, by decide⟩ (Nat.le_of_ble_eq_true rfl) dX7_bank_21 (fun v F9 hp => ?_)
      obtain ⟨rfl, B, e9⟩ := hp
      rw [e9]
      clear e9 F9
      have zR : gz (run 0 nn M.1) := sk_run.z hz
      have rR : rg (N + 6 * nn) (run 0 nn M.1) := rg_run hz h (by omega)
      have sR : sms (run 0 nn M.1) := rR.sm (by omega)
      have eRC : nC (run 0 nn M.1) = nC M.1 := sk_run.C
      have eRS : nS (run 0 nn M.1) = nS M.1 := sk_run.S
      refine z_iconst C (v := 0) dX7_bank_24 rfl ?_
      refine z_istore_n (i := 2) C dX7_bank_25 rfl (by decide) ?_
      refine z_iconst C (v := 0) dX7_bank_26 rfl ?_
      refine z_istore_n (i := 3) C dX7_bank_27 rfl (by decide) ?_
      refine z_pick [2, 1, 0] rfl ?_
      exact lp_X7_bank M hz h hN (nI nn) rfl hnn h4 C0 (B := B) (nC M.1 + 1) 0 (by omega) (by omega)
    · skip
      refine z_aload_n C 0 dX7_bank_11 rfl ?_
      refine z_bipush C (v := (-6)) dX7_bank_12 rfl ?_
      refine z_callV1 C (c_X7_no l E _ (-6) 6 (by decide) (by decide) (by decide)) ⟨rfl, rfl⟩ rfl rfl q_X7_124 ⟨by decide, by decide⟩ (Nat.le_of_ble_eq_true rfl) dX7_bank_14 (fun v F9 hp => ?_)
      obtain ⟨rfl, e9⟩ := hp
      rw [e9]
      clear e9 F9
      refine z_iret C0 dX7_bank_17 ?_
      exact mpo.ref (by unfold kTime; rw [inT_f2 (Int32.not_le.mp h8)]; rfl) (by decide)
set_option maxRecDepth 100000 in
set_option maxHeartbeats 4000000 in
theorem c_X7_rot (l : Launch) (E : zE) (M : zM) (hz : gz M.1) {N : Nat} (h : rg N M.1) (hN : N ≤ 100000000) (rule n : Int32) : MM l E yX7_rot cX7_rot 4 (some .int) 8 [.ref (madr E.2.2.1 (0, 0, 0)), .int (rule), .int (n)] (M) (mpo M (kRN rule n) (nightL (run rule n.toNatClampNeg M.1)) (mSm M)) := by
  refine MM.mk kq_X7 (Nat.le_of_ble_eq_true rfl) (fun K s C0 => ?_)
  have C := C0.c
  obtain ⟨⟨eS, lS⟩, ⟨eC, lC⟩⟩ := id hz
  have hsm : sms M.1 := h.sm (by omega)
  refine z_aload_n C 0 dX7_rot_0 rfl ?_
  refine z_iload_n C 1 dX7_rot_1 rfl ?_
  refine z_iload_n C 2 dX7_rot_2 rfl ?_
  refine z_callV2 C (c_X7_isAfternoon l E _ _ _) ⟨rfl, rfl⟩ rfl rfl q_X7_256 ⟨by decide, by decide⟩ (Nat.le_of_ble_eq_true rfl) dX7_rot_3 (fun v F9 hp => ?_)
  obtain ⟨rfl, e9⟩ := hp
  rw [e9]
  clear e9 F9
  refine z_if_ne C 16 dX7_rot_6 (by decide) (fun h6 => ?_) (fun h6 => ?_)
  · skip
    have h6 := bI_1 h6
    obtain ⟨hr4, hnt⟩ := okRN_of h6
    obtain ⟨nn, hnn, rfl⟩ := inT_of (n := 240) hnt (by omega)
    have en : (nI nn).toNatClampNeg = nn := nI_clamp (by omega)
    refine z_aload_n C 0 dX7_rot_16 rfl ?_
    refine z_iload_n C 1 dX7_rot_17 rfl ?_
    refine z_iload_n C 2 dX7_rot_18 rfl ?_
    refine z_callV2 C (c_X7_tries l E _ hz h rule (n := nn) (by omega) (by omega)) ⟨rfl, rfl⟩ rfl rfl q_X7_259 ⟨by decide, by decide⟩ (Nat.le_of_ble_eq_true rfl) dX7_rot_19 (fun v F9 hp => ?_)
    obtain ⟨rfl, B, e9⟩ := hp
    rw [e9]
    clear e9 F9
    have zR : gz (run rule nn M.1) := sk_run.z hz
    have rR : rg (N + 6 * nn) (run rule nn M.1) := rg_run hz h (by omega)
    have sR : sms (run rule nn M.1) := rR.sm (by omega)
    have eRC : nC (run rule nn M.1) = nC M.1 := sk_run.C
    have eRS : nS (run rule nn M.1) = nS M.1 := sk_run.S
    refine z_aload_n C 0 dX7_rot_22 rfl ?_
    refine z_callV0 C (c_X7_rots l E (mTr M (run rule nn M.1) B _) zR rR) ⟨rfl, rfl⟩ rfl rfl q_X7_191 ⟨by decide, by decide⟩ (Nat.le_of_ble_eq_true rfl) dX7_rot_23 (fun v F9 hp => ?_)
    obtain ⟨rfl, e9⟩ := hp
    rw [e9]
    clear e9 F9
    refine z_istore_n (i := 3) C dX7_rot_26 rfl (by decide) ?_
    refine z_aload_n C 1 dX7_rot_27 rfl ?_
    refine z_callV0 C (c_X7_takesBack l E _ (g := M.1) hz (fun q hq => mTr_37 hq)) ⟨rfl, rfl⟩ rfl rfl q_X7_262 ⟨by decide, by decide⟩ (Nat.le_of_ble_eq_true rfl) dX7_rot_28 (fun v F9 hp => ?_)
    obtain ⟨rfl, g2, e9, hg2⟩ := hp
    rw [e9]
    clear e9 F9
    refine z_iload_n C 0 dX7_rot_31 rfl ?_
    refine z_iret C0 dX7_rot_32 ?_
    exact mpo.ok (by simp [kRN, h6]) (by rw [en]; rfl) (mSm_tr (d := (run rule nn M.1).1 6 - M.1.1 6) hg2)
  · skip
    have h6 := bI_0 h6
    refine z_aload_n C 0 dX7_rot_9 rfl ?_
    refine z_bipush C (v := (-6)) dX7_rot_10 rfl ?_
    refine z_callV1 C (c_X7_no l E _ (-6) 6 (by decide) (by decide) (by decide)) ⟨rfl, rfl⟩ rfl rfl q_X7_124 ⟨by decide, by decide⟩ (Nat.le_of_ble_eq_true rfl) dX7_rot_12 (fun v F9 hp => ?_)
    obtain ⟨rfl, e9⟩ := hp
    rw [e9]
    clear e9 F9
    refine z_iret C0 dX7_rot_15 ?_
    exact mpo.ref (by simp [kRN, h6]) (by decide)
set_option maxRecDepth 100000 in
set_option maxHeartbeats 4000000 in
theorem lp_X7_trust {l : Launch} {E : zE} {K : zK} {s : State} (M : zM) (hz : gz M.1) {N : Nat} (h : rg N M.1) (hN : N ≤ 100000000) (a p : Int32) {c j : Nat} (ea : a = nI c) (ep : p = nI j) (hc : c < nC M.1) (hj : j < nS M.1) (hk0 : kTrust M.1 a p = 0) (C0 : MR l E K cX7_trust RX7 3 s 7 (some .int) (mpo M (kTrust M.1 a p) (oI (trN M.1 a.toNatClampNeg (askS M.1 p.toNatClampNeg) 241)) (fun M2 => M2 = M))) : ∀ (n2 : Nat) (t : Nat), (241 - t < n2) → (t ≤ 241) → (trN M.1 c (askS M.1 j) t = none) → Z K (MP E (M) s) 38 [(0, .ref (madr E.2.2.1 (0, 0, 0))), (1, .int (nI c)), (2, .int (nI j)), (3, .int ((pickN M.1 c t).2.2 c 1)), (4, .int ((pickN M.1 c t).1 5)), (5, .int (nI t))] [] := by
  have C := C0.c
  intro n2
  induction n2 with
  | zero => intro t hk hkl hN2; exact absurd hk (Nat.not_lt_zero _)
  | succ n2 ih =>
    intro t hk hkl hN2
    obtain ⟨⟨eS, lS⟩, ⟨eC, lC⟩⟩ := id hz
    have hsm : sms M.1 := h.sm (by omega)
    have hc6 : c < 6 := by omega
    have hj6 : j < 6 := by omega
    refine z_iload C 5 dX7_trust_38 rfl ?_
    refine z_sipush C (v := 240) dX7_trust_40 rfl ?_
    refine z_icmp_gt C 104 dX7_trust_43 (by decide) (fun h43 => ?_) (fun h43 => ?_)
    · skip
      refine z_iconst C (v := (-1)) dX7_trust_104 rfl ?_
      refine z_iret C0 dX7_trust_105 ?_
      have e : t = 241 := by
        rcases Nat.lt_or_ge t 241 with q | q
        · exact absurd h43 (nI_nlt (a := 240) (b := t) (by omega) (by omega))
        · omega
      subst e ea ep
      exact mpo.ok hk0 (by rw [nI_clamp (by omega), nI_clamp (by omega), hN2]; rfl) rfl
    · skip
      have ht2 : t < 241 := by
        rcases Nat.lt_or_ge t 241 with q | q
        · exact q
        · exact absurd (nI_lt (a := 240) (b := t) (by omega) (by omega)) h43
      refine z_iload_n C 3 dX7_trust_46 rfl ?_
      refine z_aload_n C 0 dX7_trust_47 rfl ?_
      refine z_iload_n C 2 dX7_trust_48 rfl ?_
      refine z_callV1 C (c_X7_asked l E _ hj6 (hsm j hj)) ⟨rfl, rfl⟩ rfl rfl q_X7_131 ⟨by decide, by decide⟩ (Nat.le_of_ble_eq_true rfl) dX7_trust_49 (fun v F9 hp => ?_)
      obtain ⟨rfl, e9⟩ := hp
      rw [e9]
      clear e9 F9
      refine z_icmp_lt C 58 dX7_trust_52 (by decide) (fun h52 => ?_) (fun h52 => ?_)
      · skip
        refine z_aload_n C 0 dX7_trust_58 rfl ?_
        refine mg_15 C dX7_trust_59 ?_
        refine z_iload_n C 1 dX7_trust_62 rfl ?_
        refine ml_15 C c rfl (by first | assumption | omega) dX7_trust_63 ?_
        refine z_iload C 4 dX7_trust_64 rfl ?_
        refine z_icmp_ge C 78 dX7_trust_66 (by decide) (fun h66 => ?_) (fun h66 => ?_)
        · skip
          refine z_iload C 4 dX7_trust_78 rfl ?_
          refine z_top (mnI ((pickN M.1 c t).2.2 c 0) ((pickN M.1 c t).1 5)) (by rw [show (pickN M.1 c t).2.2 c 0 = M.1.2.2 c 0 from sk_pick.2.2 c]; exact (mnI_a h66).symm) ?_
          refine z_istore C dX7_trust_80 (by decide) ?_
          refine z_iload C 5 dX7_trust_82 rfl ?_
          refine z_iload C 0 dX7_trust_84 rfl ?_
          refine z_isub C dX7_trust_86 ?_
          refine z_top ((pickN M.1 c (t + 1)).1 5) (pick_5 (pickN M.1 c t) c).symm ?_
          refine z_istore C dX7_trust_87 (by decide) ?_
          refine z_aload_n C 2 dX7_trust_89 rfl ?_
          refine z_iload_n C 5 dX7_trust_90 rfl ?_
          refine z_iload C 1 dX7_trust_91 rfl ?_
          refine z_iadd C dX7_trust_93 ?_
          refine z_callV1 C (c_X7_full l E _ _) ⟨rfl, rfl⟩ rfl rfl q_X7_225 ⟨by decide, by decide⟩ (Nat.le_of_ble_eq_true rfl) dX7_trust_94 (fun v F9 hp => ?_)
          obtain ⟨rfl, e9⟩ := hp
          rw [e9]
          clear e9 F9
          refine z_top ((pickN M.1 c (t + 1)).2.2 c 1) (pick_1 (pickN M.1 c t) c).symm ?_
          refine z_istore_n (i := 3) C dX7_trust_97 rfl (by decide) ?_
          refine z_iinc C (v := nI (t + 1)) 6 dX7_trust_98 rfl (nI_1 _) (by decide) ?_
          refine z_goto C 38 dX7_trust_101 (by decide) ?_
          refine z_pick [4, 5, 6, 1, 2, 0] rfl ?_
          refine ih (t + 1) (by omega) (by omega) ?_
          simp only [trN, hN2]
          rw [if_neg (Int32.not_le.mpr h52)]
        · skip
          refine z_aload_n C 0 dX7_trust_69 rfl ?_
          refine mg_15 C dX7_trust_70 ?_
          refine z_iload_n C 1 dX7_trust_73 rfl ?_
          refine ml_15 C c rfl (by first | assumption | omega) dX7_trust_74 ?_
          refine z_goto C 80 dX7_trust_75 (by decide) ?_
          refine z_top (mnI ((pickN M.1 c t).2.2 c 0) ((pickN M.1 c t).1 5)) (by rw [show (pickN M.1 c t).2.2 c 0 = M.1.2.2 c 0 from sk_pick.2.2 c]; exact (mnI_b h66).symm) ?_
          refine z_istore C dX7_trust_80 (by decide) ?_
          refine z_iload C 5 dX7_trust_82 rfl ?_
          refine z_iload C 0 dX7_trust_84 rfl ?_
          refine z_isub C dX7_trust_86 ?_
          refine z_top ((pickN M.1 c (t + 1)).1 5) (pick_5 (pickN M.1 c t) c).symm ?_
          refine z_istore C dX7_trust_87 (by decide) ?_
          refine z_aload_n C 2 dX7_trust_89 rfl ?_
          refine z_iload_n C 5 dX7_trust_90 rfl ?_
          refine z_iload C 1 dX7_trust_91 rfl ?_
          refine z_iadd C dX7_trust_93 ?_
          refine z_callV1 C (c_X7_full l E _ _) ⟨rfl, rfl⟩ rfl rfl q_X7_225 ⟨by decide, by decide⟩ (Nat.le_of_ble_eq_true rfl) dX7_trust_94 (fun v F9 hp => ?_)
          obtain ⟨rfl, e9⟩ := hp
          rw [e9]
          clear e9 F9
          refine z_top ((pickN M.1 c (t + 1)).2.2 c 1) (pick_1 (pickN M.1 c t) c).symm ?_
          refine z_istore_n (i := 3) C dX7_trust_97 rfl (by decide) ?_
          refine z_iinc C (v := nI (t + 1)) 6 dX7_trust_98 rfl (nI_1 _) (by decide) ?_
          refine z_goto C 38 dX7_trust_101 (by decide) ?_
          refine z_pick [4, 5, 6, 1, 2, 0] rfl ?_
          refine ih (t + 1) (by omega) (by omega) ?_
          simp only [trN, hN2]
          rw [if_neg (Int32.not_le.mpr h52)]
      · skip
        refine z_iload C 5 dX7_trust_55 rfl ?_
        refine z_iret C0 dX7_trust_57 ?_
        have e : trN M.1 c (askS M.1 j) (t + 1) = some t := by
          simp only [trN, hN2]
          rw [if_pos (Int32.not_lt.mp h52)]
        subst ea ep
        exact mpo.ok hk0 (by rw [nI_clamp (by omega), nI_clamp (by omega), trN_up e (show t + 1 ≤ 241 by omega)]; rfl) rfl
set_option maxRecDepth 100000 in
set_option maxHeartbeats 4000000 in
theorem c_X7_trust (l : Launch) (E : zE) (M : zM) (hz : gz M.1) {N : Nat} (h : rg N M.1) (hN : N ≤ 100000000) (a p : Int32) : MM l E yX7_trust cX7_trust 7 (some .int) 3 [.ref (madr E.2.2.1 (0, 0, 0)), .int (a), .int (p)] (M) (mpo M (kTrust M.1 a p) (oI (trN M.1 a.toNatClampNeg (askS M.1 p.toNatClampNeg) 241)) (fun M2 => M2 = M)) := by
  refine MM.mk kq_X7 (Nat.le_of_ble_eq_true rfl) (fun K s C0 => ?_)
  have C := C0.c
  obtain ⟨⟨eS, lS⟩, ⟨eC, lC⟩⟩ := id hz
  have hsm : sms M.1 := h.sm (by omega)
  refine z_aload_n C 0 dX7_trust_0 rfl ?_
  refine z_iload_n C 1 dX7_trust_1 rfl ?_
  refine z_callV1 C (c_X7_isChild l E _ _) ⟨rfl, rfl⟩ rfl rfl q_X7_142 ⟨by decide, by decide⟩ (Nat.le_of_ble_eq_true rfl) dX7_trust_2 (fun v F9 hp => ?_)
  obtain ⟨rfl, e9⟩ := hp
  rw [e9]
  clear e9 F9
  refine z_if_eq C 16 dX7_trust_5 (by decide) (fun h5 => ?_) (fun h5 => ?_)
  · skip
    have h5 := bI_0 h5
    refine z_aload_n C 0 dX7_trust_16 rfl ?_
    refine z_iconst C (v := (-1)) dX7_trust_17 rfl ?_
    refine z_callV1 C (c_X7_noTen l E _ (-1) 1 (by decide) (by decide) (by decide)) ⟨rfl, rfl⟩ rfl rfl q_X7_145 ⟨by decide, by decide⟩ (Nat.le_of_ble_eq_true rfl) dX7_trust_18 (fun v F9 hp => ?_)
    obtain ⟨rfl, e9⟩ := hp
    rw [e9]
    clear e9 F9
    refine z_iret C0 dX7_trust_21 ?_
    exact mpo.ref (by simp [kTrust, h5]) (by decide)
  · skip
    have h5 := bI_1 h5
    refine z_aload_n C 0 dX7_trust_8 rfl ?_
    refine z_iload_n C 2 dX7_trust_9 rfl ?_
    refine z_callV1 C (c_X7_isShop l E _ _) ⟨rfl, rfl⟩ rfl rfl q_X7_128 ⟨by decide, by decide⟩ (Nat.le_of_ble_eq_true rfl) dX7_trust_10 (fun v F9 hp => ?_)
    obtain ⟨rfl, e9⟩ := hp
    rw [e9]
    clear e9 F9
    refine z_if_ne C 22 dX7_trust_13 (by decide) (fun h13 => ?_) (fun h13 => ?_)
    · skip
      have h13 := bI_1 h13
      obtain ⟨c, hc, rfl⟩ := inR_of (n := nC M.1) (by rw [← eC]; exact h5) (by omega)
      have hc6 : c < 6 := by omega
      have ec : (nI c).toNatClampNeg = c := nI_clamp (by omega)
      obtain ⟨j, hj, rfl⟩ := inR_of (n := nS M.1) (by rw [← eS]; exact h13) (by omega)
      have hj6 : j < 6 := by omega
      have ej : (nI j).toNatClampNeg = j := nI_clamp (by omega)
      refine z_aload_n C 0 dX7_trust_22 rfl ?_
      refine mg_16 C dX7_trust_23 ?_
      refine z_iload_n C 1 dX7_trust_26 rfl ?_
      refine ml_16 C c rfl (by first | assumption | omega) dX7_trust_27 ?_
      refine z_istore_n (i := 3) C dX7_trust_28 rfl (by decide) ?_
      refine z_aload_n C 1 dX7_trust_29 rfl ?_
      refine mg_5 C dX7_trust_30 ?_
      refine z_istore C dX7_trust_33 (by decide) ?_
      refine z_iconst C (v := 0) dX7_trust_35 rfl ?_
      refine z_istore C dX7_trust_36 (by decide) ?_
      refine z_pick [3, 4, 5, 2, 1, 0] rfl ?_
      have hk0 : kTrust M.1 (nI c) (nI j) = 0 := by simp [kTrust, h5, h13]
      exact lp_X7_trust M hz h hN (nI c) (nI j) rfl rfl hc hj hk0 C0 242 0 (by omega) (by omega) rfl
    · skip
      have h13 := bI_0 h13
      refine z_aload_n C 0 dX7_trust_16 rfl ?_
      refine z_iconst C (v := (-1)) dX7_trust_17 rfl ?_
      refine z_callV1 C (c_X7_noTen l E _ (-1) 1 (by decide) (by decide) (by decide)) ⟨rfl, rfl⟩ rfl rfl q_X7_145 ⟨by decide, by decide⟩ (Nat.le_of_ble_eq_true rfl) dX7_trust_18 (fun v F9 hp => ?_)
      obtain ⟨rfl, e9⟩ := hp
      rw [e9]
      clear e9 F9
      refine z_iret C0 dX7_trust_21 ?_
      exact mpo.ref (by simp [kTrust, h5, h13]) (by decide)
set_option maxRecDepth 100000 in
set_option maxHeartbeats 4000000 in
theorem lp_X7_heap {l : Launch} {E : zE} {K : zK} {s : State} (M : zM) (hz : gz M.1) {N : Nat} (h : rg N M.1) (hN : N ≤ 100000000) (rule v : Int32) (hk0 : kHeap rule v = 0) (C0 : MR l E K cX7_heap RX7 7 s 5 (some .int) (mpo M (kHeap rule v) (oI (heapN rule v M.1 241)) (mSm M))) : ∀ (n2 : Nat) (t : Nat) (B : Nat → Int32), (241 - t < n2) → (t ≤ 241) → Z K (MP E (mB (mT M 37 (pkN (M.2.2.1 37) M.1 74)) (run rule t M.1) B) s) 33 [(0, .ref (madr E.2.2.1 (0, 0, 0))), (1, .int (rule)), (2, .int (v)), (3, .int (oI (heapN rule v M.1 t))), (4, .int (nI t))] [] := by
  have C := C0.c
  intro n2
  induction n2 with
  | zero => intro t B hk htl; exact absurd hk (Nat.not_lt_zero _)
  | succ n2 ih =>
    intro t B hk htl
    obtain ⟨⟨eS, lS⟩, ⟨eC, lC⟩⟩ := id hz
    have hsm : sms M.1 := h.sm (by omega)
    refine z_iload C 4 dX7_heap_33 rfl ?_
    refine z_sipush C (v := 240) dX7_heap_35 rfl ?_
    refine z_icmp_gt C 68 dX7_heap_38 (by decide) (fun h38 => ?_) (fun h38 => ?_)
    · skip
      refine z_aload_n C 0 dX7_heap_68 rfl ?_
      refine z_callV0 C (c_X7_takesBack l E _ (g := M.1) hz (fun q hq => pkN_at hq)) ⟨rfl, rfl⟩ rfl rfl q_X7_262 ⟨by decide, by decide⟩ (Nat.le_of_ble_eq_true rfl) dX7_heap_69 (fun v F9 hp => ?_)
      obtain ⟨rfl, g2, e9, hg2⟩ := hp
      rw [e9]
      clear e9 F9
      refine z_iload_n C 3 dX7_heap_72 rfl ?_
      refine z_iret C0 dX7_heap_73 ?_
      have e : t = 241 := by
        rcases Nat.lt_or_ge t 241 with q | q
        · exact absurd h38 (nI_nlt (a := 240) (b := t) (by omega) (by omega))
        · omega
      subst e
      exact mpo.ok hk0 rfl (mSm_hp hg2)
    · skip
      have ht2 : t < 241 := by
        rcases Nat.lt_or_ge t 241 with q | q
        · exact q
        · exact absurd (nI_lt (a := 240) (b := t) (by omega) (by omega)) h38
      have zR : gz (run rule t M.1) := sk_run.z hz
      have rR : rg (N + 6 * t) (run rule t M.1) := rg_run hz h (by omega)
      refine z_iload_n C 3 dX7_heap_41 rfl ?_
      refine z_iconst C (v := (-1)) dX7_heap_42 rfl ?_
      refine z_icmp_ne C 68 dX7_heap_43 (by decide) (fun h43 => ?_) (fun h43 => ?_)
      · skip
        refine z_aload_n C 0 dX7_heap_68 rfl ?_
        refine z_callV0 C (c_X7_takesBack l E _ (g := M.1) hz (fun q hq => pkN_at hq)) ⟨rfl, rfl⟩ rfl rfl q_X7_262 ⟨by decide, by decide⟩ (Nat.le_of_ble_eq_true rfl) dX7_heap_69 (fun v F9 hp => ?_)
        obtain ⟨rfl, g2, e9, hg2⟩ := hp
        rw [e9]
        clear e9 F9
        refine z_iload_n C 3 dX7_heap_72 rfl ?_
        refine z_iret C0 dX7_heap_73 ?_
        obtain ⟨q, hq⟩ := oI_ne h43
        exact mpo.ok hk0 (by rw [hq, heapN_up hq (show t ≤ 241 by omega)]) (mSm_hp hg2)
      · skip
        refine z_aload_n C 0 dX7_heap_46 rfl ?_
        refine mg_3 C dX7_heap_47 ?_
        refine z_iload_n C 2 dX7_heap_50 rfl ?_
        refine z_icmp_lt C 57 dX7_heap_51 (by decide) (fun h51 => ?_) (fun h51 => ?_)
        · skip
          refine z_aload_n C 0 dX7_heap_57 rfl ?_
          refine z_iload_n C 1 dX7_heap_58 rfl ?_
          refine z_callV1 C (c_X7_lives l E (mB (mT M 37 (pkN (M.2.2.1 37) M.1 74)) (run rule t M.1) B) zR rR (by omega) rule (minutes rule t (M.1, fun _ => 0, fun _ => 0)) rfl) ⟨rfl, rfl⟩ rfl rfl q_X7_243 ⟨by decide, by decide⟩ (Nat.le_of_ble_eq_true rfl) dX7_heap_59 (fun v F9 hp => ?_)
          obtain ⟨rfl, B2, e9⟩ := hp
          rw [e9, mB_mB]
          clear e9 F9
          refine z_iinc C (v := nI (t + 1)) 4 dX7_heap_62 rfl (nI_1 _) (by decide) ?_
          refine z_goto C 33 dX7_heap_65 (by decide) ?_
          refine z_pick [1, 2, 3, 4, 0] rfl ?_
          have hn : heapN rule v M.1 t = none := heapN_none h43
          have q := ih (t + 1) B2 (by omega) (by omega)
          rw [heapN_s hn, if_neg (show ¬ v ≤ (run rule t M.1).1 3 from Int32.not_le.mpr h51), ← hn] at q
          exact q
        · skip
          refine z_iload C 4 dX7_heap_54 rfl ?_
          refine z_istore_n (i := 3) C dX7_heap_56 rfl (by decide) ?_
          refine z_aload_n C 1 dX7_heap_57 rfl ?_
          refine z_iload_n C 2 dX7_heap_58 rfl ?_
          refine z_callV1 C (c_X7_lives l E (mB (mT M 37 (pkN (M.2.2.1 37) M.1 74)) (run rule t M.1) B) zR rR (by omega) rule (minutes rule t (M.1, fun _ => 0, fun _ => 0)) rfl) ⟨rfl, rfl⟩ rfl rfl q_X7_243 ⟨by decide, by decide⟩ (Nat.le_of_ble_eq_true rfl) dX7_heap_59 (fun v F9 hp => ?_)
          obtain ⟨rfl, B2, e9⟩ := hp
          rw [e9, mB_mB]
          clear e9 F9
          refine z_iinc C (v := nI (t + 1)) 4 dX7_heap_62 rfl (nI_1 _) (by decide) ?_
          refine z_goto C 33 dX7_heap_65 (by decide) ?_
          refine z_pick [2, 3, 4, 1, 0] rfl ?_
          have hn : heapN rule v M.1 t = none := heapN_none h43
          have q := ih (t + 1) B2 (by omega) (by omega)
          rw [heapN_s hn, if_pos (show v ≤ (run rule t M.1).1 3 from Int32.not_lt.mp h51)] at q
          exact q
set_option maxRecDepth 100000 in
set_option maxHeartbeats 4000000 in
theorem c_X7_heap (l : Launch) (E : zE) (M : zM) (hz : gz M.1) {N : Nat} (h : rg N M.1) (hN : N ≤ 100000000) (rule v : Int32) : MM l E yX7_heap cX7_heap 5 (some .int) 7 [.ref (madr E.2.2.1 (0, 0, 0)), .int (rule), .int (v)] (M) (mpo M (kHeap rule v) (oI (heapN rule v M.1 241)) (mSm M)) := by
  refine MM.mk kq_X7 (Nat.le_of_ble_eq_true rfl) (fun K s C0 => ?_)
  have C := C0.c
  obtain ⟨⟨eS, lS⟩, ⟨eC, lC⟩⟩ := id hz
  have hsm : sms M.1 := h.sm (by omega)
  refine z_aload_n C 0 dX7_heap_0 rfl ?_
  refine z_iload_n C 1 dX7_heap_1 rfl ?_
  refine z_callV1 C (c_X7_isRule l E _ _) ⟨rfl, rfl⟩ rfl rfl q_X7_247 ⟨by decide, by decide⟩ (Nat.le_of_ble_eq_true rfl) dX7_heap_2 (fun v F9 hp => ?_)
  obtain ⟨rfl, e9⟩ := hp
  rw [e9]
  clear e9 F9
  refine z_if_eq C 12 dX7_heap_5 (by decide) (fun h5 => ?_) (fun h5 => ?_)
  · skip
    have h5 := bI_0 h5
    refine z_aload_n C 0 dX7_heap_12 rfl ?_
    refine z_bipush C (v := (-6)) dX7_heap_13 rfl ?_
    refine z_callV1 C (c_X7_noTen l E _ (-6) 6 (by decide) (by decide) (by decide)) ⟨rfl, rfl⟩ rfl rfl q_X7_145 ⟨by decide, by decide⟩ (Nat.le_of_ble_eq_true rfl) dX7_heap_15 (fun v F9 hp => ?_)
    obtain ⟨rfl, e9⟩ := hp
    rw [e9]
    clear e9 F9
    refine z_iret C0 dX7_heap_18 ?_
    exact mpo.ref (by simp [kHeap, h5]) (by decide)
  · skip
    have h5 := bI_1 h5
    refine z_iload_n C 2 dX7_heap_8 rfl ?_
    refine z_if_ge C 19 dX7_heap_9 (by decide) (fun h9 => ?_) (fun h9 => ?_)
    · skip
      refine z_aload_n C 0 dX7_heap_19 rfl ?_
      refine z_aload_n C 0 dX7_heap_20 rfl ?_
      refine mg_37 C dX7_heap_21 ?_
      refine z_iconst C (v := 0) dX7_heap_24 rfl ?_
      refine z_callV2 C (c_allF l E _ (k2 := 37) (by omega)) ⟨rfl, rfl⟩ rfl rfl q_X7_210 ⟨by decide, by decide⟩ (Nat.le_of_ble_eq_true rfl) dX7_heap_25 (fun v F9 hp => ?_)
      obtain ⟨rfl, e9⟩ := hp
      rw [e9]
      clear e9 F9
      refine z_iconst C (v := (-1)) dX7_heap_28 rfl ?_
      refine z_istore_n (i := 3) C dX7_heap_29 rfl (by decide) ?_
      refine z_iconst C (v := 0) dX7_heap_30 rfl ?_
      refine z_istore C dX7_heap_31 (by decide) ?_
      refine z_pick [2, 3, 4, 1, 0] rfl ?_
      have hk0 : kHeap rule v = 0 := by simp [kHeap, h5, h9, Int32.not_lt.mpr h9]
      have q := lp_X7_heap M hz h hN rule v hk0 C0 242 0 (M.2.2.1 38) (by omega) (by omega)
      rw [show mB (mT M 37 (pkN (M.2.2.1 37) M.1 74)) (run rule 0 M.1) (M.2.2.1 38) = (mT M 37 (pkN (M.2.2.1 37) M.1 74)) from mB_id (M := (mT M 37 (pkN (M.2.2.1 37) M.1 74)))] at q
      exact q
    · skip
      refine z_aload_n C 0 dX7_heap_12 rfl ?_
      refine z_bipush C (v := (-6)) dX7_heap_13 rfl ?_
      refine z_callV1 C (c_X7_noTen l E _ (-6) 6 (by decide) (by decide) (by decide)) ⟨rfl, rfl⟩ rfl rfl q_X7_145 ⟨by decide, by decide⟩ (Nat.le_of_ble_eq_true rfl) dX7_heap_15 (fun v F9 hp => ?_)
      obtain ⟨rfl, e9⟩ := hp
      rw [e9]
      clear e9 F9
      refine z_iret C0 dX7_heap_18 ?_
      exact mpo.ref (by simp [kHeap, h5, h9, Int32.not_le.mp h9]) (by decide)
set_option maxRecDepth 100000 in
set_option maxHeartbeats 4000000 in
theorem c_X7_does (l : Launch) (E : zE) (M : zM) (hz : gz M.1) {N : Nat} (h : rg N M.1) (hN : N ≤ 100000000) (a d : Int32) : MM l E yX7_does cX7_does 3 (some .int) 4 [.ref (madr E.2.2.1 (0, 0, 0)), .int (a), .int (d)] (M) (mpo M (kDoes M.1 a d) 1 (fun M2 => M2 = mG M (makes M.1 a.toNatClampNeg d))) := by
  refine MM.mk kq_X7 (Nat.le_of_ble_eq_true rfl) (fun K s C0 => ?_)
  have C := C0.c
  obtain ⟨⟨eS, lS⟩, ⟨eC, lC⟩⟩ := id hz
  have hsm : sms M.1 := h.sm (by omega)
  refine z_aload_n C 0 dX7_does_0 rfl ?_
  refine z_iload_n C 1 dX7_does_1 rfl ?_
  refine z_callV1 C (c_X7_isChild l E _ _) ⟨rfl, rfl⟩ rfl rfl q_X7_142 ⟨by decide, by decide⟩ (Nat.le_of_ble_eq_true rfl) dX7_does_2 (fun v F9 hp => ?_)
  obtain ⟨rfl, e9⟩ := hp
  rw [e9]
  clear e9 F9
  refine z_if_ne C 14 dX7_does_5 (by decide) (fun h5 => ?_) (fun h5 => ?_)
  · skip
    have h5 := bI_1 h5
    obtain ⟨c, hc, rfl⟩ := inR_of (n := nC M.1) (by rw [← eC]; exact h5) (by omega)
    have hc6 : c < 6 := by omega
    have ec : (nI c).toNatClampNeg = c := nI_clamp (by omega)
    refine z_aload_n C 0 dX7_does_14 rfl ?_
    refine z_iload_n C 1 dX7_does_15 rfl ?_
    refine z_iload_n C 2 dX7_does_16 rfl ?_
    refine z_callV2 C (c_X7_mayBe l E _ hz hsm hc6 d) ⟨rfl, rfl⟩ rfl rfl q_X7_170 ⟨by decide, by decide⟩ (Nat.le_of_ble_eq_true rfl) dX7_does_17 (fun v F9 hp => ?_)
    obtain ⟨rfl, e9⟩ := hp
    rw [e9]
    clear e9 F9
    refine z_if_ne C 30 dX7_does_20 (by decide) (fun h20 => ?_) (fun h20 => ?_)
    · skip
      have h20 := bI_1 h20
      refine z_aload_n C 0 dX7_does_30 rfl ?_
      refine z_iload_n C 1 dX7_does_31 rfl ?_
      refine z_iload_n C 2 dX7_does_32 rfl ?_
      refine z_callV2 C (c_X7_makes l E M hz hsm h hc (can_dd hz h20)) ⟨rfl, rfl⟩ rfl rfl q_X7_187 ⟨by decide, by decide⟩ (Nat.le_of_ble_eq_true rfl) dX7_does_33 (fun v F9 hp => ?_)
      obtain ⟨rfl, e9⟩ := hp
      rw [e9]
      clear e9 F9
      refine z_iconst C (v := 1) dX7_does_36 rfl ?_
      refine z_iret C0 dX7_does_37 ?_
      exact mpo.ok (by simp [kDoes, ec, h5, h20]) rfl (by rw [ec])
    · skip
      have h20 := bI_0 h20
      refine z_aload_n C 0 dX7_does_23 rfl ?_
      refine z_bipush C (v := (-6)) dX7_does_24 rfl ?_
      refine z_callV1 C (c_X7_no l E _ (-6) 6 (by decide) (by decide) (by decide)) ⟨rfl, rfl⟩ rfl rfl q_X7_124 ⟨by decide, by decide⟩ (Nat.le_of_ble_eq_true rfl) dX7_does_26 (fun v F9 hp => ?_)
      obtain ⟨rfl, e9⟩ := hp
      rw [e9]
      clear e9 F9
      refine z_iret C0 dX7_does_29 ?_
      exact mpo.ref (by simp [kDoes, ec, h5, h20]) (by decide)
  · skip
    have h5 := bI_0 h5
    refine z_aload_n C 0 dX7_does_8 rfl ?_
    refine z_iconst C (v := (-1)) dX7_does_9 rfl ?_
    refine z_callV1 C (c_X7_no l E _ (-1) 1 (by decide) (by decide) (by decide)) ⟨rfl, rfl⟩ rfl rfl q_X7_124 ⟨by decide, by decide⟩ (Nat.le_of_ble_eq_true rfl) dX7_does_10 (fun v F9 hp => ?_)
    obtain ⟨rfl, e9⟩ := hp
    rw [e9]
    clear e9 F9
    refine z_iret C0 dX7_does_13 ?_
    exact mpo.ref (by simp [kDoes, h5]) (by decide)
set_option maxRecDepth 100000 in
set_option maxHeartbeats 4000000 in
theorem c_X7_minute (l : Launch) (E : zE) (M : zM) (hz : gz M.1) {N : Nat} (h : rg N M.1) (hN : N ≤ 100000000) (rule : Int32) : MM l E yX7_minute cX7_minute 2 (some .int) 6 [.ref (madr E.2.2.1 (0, 0, 0)), .int (rule)] (M) (mpo M (kRule rule) ((run rule 1 M.1).1 2) (fun M2 => ∃ B, M2 = mB M (run rule 1 M.1) B)) := by
  refine MM.mk kq_X7 (Nat.le_of_ble_eq_true rfl) (fun K s C0 => ?_)
  have C := C0.c
  obtain ⟨⟨eS, lS⟩, ⟨eC, lC⟩⟩ := id hz
  have hsm : sms M.1 := h.sm (by omega)
  refine z_aload_n C 0 dX7_minute_0 rfl ?_
  refine z_iload_n C 1 dX7_minute_1 rfl ?_
  refine z_callV1 C (c_X7_isRule l E _ _) ⟨rfl, rfl⟩ rfl rfl q_X7_247 ⟨by decide, by decide⟩ (Nat.le_of_ble_eq_true rfl) dX7_minute_2 (fun v F9 hp => ?_)
  obtain ⟨rfl, e9⟩ := hp
  rw [e9]
  clear e9 F9
  refine z_if_ne C 15 dX7_minute_5 (by decide) (fun h5 => ?_) (fun h5 => ?_)
  · skip
    have h5 := bI_1 h5
    refine z_aload_n C 0 dX7_minute_15 rfl ?_
    refine z_iload_n C 1 dX7_minute_16 rfl ?_
    refine z_callV1 C (c_X7_lives l E M hz h (by omega) rule (M.1, fun _ => 0, fun _ => 0) rfl) ⟨rfl, rfl⟩ rfl rfl q_X7_243 ⟨by decide, by decide⟩ (Nat.le_of_ble_eq_true rfl) dX7_minute_17 (fun v F9 hp => ?_)
    obtain ⟨rfl, B, e9⟩ := hp
    rw [e9]
    clear e9 F9
    refine z_aload_n C 0 dX7_minute_20 rfl ?_
    refine mg_2 C dX7_minute_21 ?_
    refine z_iret C0 dX7_minute_24 ?_
    exact mpo.ok (by simp [kRule, h5]) rfl ⟨B, rfl⟩
  · skip
    have h5 := bI_0 h5
    refine z_aload_n C 0 dX7_minute_8 rfl ?_
    refine z_bipush C (v := (-6)) dX7_minute_9 rfl ?_
    refine z_callV1 C (c_X7_no l E _ (-6) 6 (by decide) (by decide) (by decide)) ⟨rfl, rfl⟩ rfl rfl q_X7_124 ⟨by decide, by decide⟩ (Nat.le_of_ble_eq_true rfl) dX7_minute_11 (fun v F9 hp => ?_)
    obtain ⟨rfl, e9⟩ := hp
    rw [e9]
    clear e9 F9
    refine z_iret C0 dX7_minute_14 ?_
    exact mpo.ref (by simp [kRule, h5]) (by decide)
set_option maxRecDepth 100000 in
set_option maxHeartbeats 4000000 in
theorem c_X7_night (l : Launch) (E : zE) (M : zM) (hz : gz M.1) {N : Nat} (h : rg N M.1) (hN : N ≤ 100000000) : MM l E yX7_night cX7_night 1 (some .int) 2 [.ref (madr E.2.2.1 (0, 0, 0))] (M) (fun v M2 => v = some (.int (nightL M.1)) ∧ M2 = mG M (nightG M.1)) := by
  refine MM.mk kq_X7 (Nat.le_of_ble_eq_true rfl) (fun K s C0 => ?_)
  have C := C0.c
  refine z_aload_n C 0 dX7_night_0 rfl ?_
  refine z_callV0 C (c_X7_rots l E M hz h) ⟨rfl, rfl⟩ rfl rfl q_X7_191 ⟨by decide, by decide⟩ (Nat.le_of_ble_eq_true rfl) dX7_night_1 (fun v F9 hp => ?_)
  obtain ⟨rfl, e9⟩ := hp
  rw [e9]
  clear e9 F9
  refine z_iret C0 dX7_night_4 ?_
  exact ⟨rfl, rfl⟩
set_option maxRecDepth 100000 in
set_option maxHeartbeats 4000000 in
theorem c_X7_seed (l : Launch) (E : zE) (M : zM) (x : Int32) : MM l E yX7_seed cX7_seed 3 (some .int) 1 [.ref (madr E.2.2.1 (0, 0, 0)), .int (x)] (M) (fun v M2 => v = some (.int (M.1.1 7)) ∧ M2 = mG M (gSc M.1 7 x)) := by
  refine MM.mk kq_X7 (Nat.le_of_ble_eq_true rfl) (fun K s C0 => ?_)
  have C := C0.c
  refine z_aload_n C 0 dX7_seed_0 rfl ?_
  refine mg_7 C dX7_seed_1 ?_
  refine z_istore_n (i := 2) C dX7_seed_4 rfl (by decide) ?_
  refine z_aload_n C 1 dX7_seed_5 rfl ?_
  refine z_iload_n C 2 dX7_seed_6 rfl ?_
  refine mp_7 C dX7_seed_7 ?_
  refine z_iload_n C 0 dX7_seed_10 rfl ?_
  refine z_iret C0 dX7_seed_11 ?_
  exact ⟨rfl, rfl⟩
set_option maxRecDepth 100000 in
set_option maxHeartbeats 4000000 in
theorem c_X7_fault (l : Launch) (E : zE) (M : zM) : MM l E yX7_fault cX7_fault 1 (some .int) 1 [.ref (madr E.2.2.1 (0, 0, 0))] (M) (fun v M2 => v = some (.int (M.2.1 8)) ∧ M2 = M) := by
  refine MM.mk kq_X7 (Nat.le_of_ble_eq_true rfl) (fun K s C0 => ?_)
  have C := C0.c
  refine z_aload_n C 0 dX7_fault_0 rfl ?_
  refine mg_8 C dX7_fault_1 ?_
  refine z_iret C0 dX7_fault_4 ?_
  exact ⟨rfl, rfl⟩
set_option maxRecDepth 100000 in
set_option maxHeartbeats 4000000 in
theorem c_X7_trace (l : Launch) (E : zE) (M : zM) (i : Int32) : MM l E yX7_trace cX7_trace 2 (some .int) 1 [.ref (madr E.2.2.1 (0, 0, 0)), .int (i)] (M) (fun v M2 => v = some (.int (aTrace (M.2.1 46) (M.2.2.1 45) i)) ∧ M2 = M) := by
  refine MM.mk kq_X7 (Nat.le_of_ble_eq_true rfl) (fun K s C0 => ?_)
  have C := C0.c
  refine z_iload_n C 1 dX7_trace_0 rfl ?_
  refine z_if_lt C 27 dX7_trace_1 (by decide) (fun h1 => ?_) (fun h1 => ?_)
  · skip
    refine z_iconst C (v := (-1)) dX7_trace_27 rfl ?_
    refine z_iret C0 dX7_trace_28 ?_
    refine ⟨?_, rfl⟩
    unfold aTrace
    rw [inR_f1 h1, if_neg (by decide)]
  · skip
    refine z_iload_n C 1 dX7_trace_4 rfl ?_
    refine z_bipush C (v := 20) dX7_trace_5 rfl ?_
    refine z_icmp_ge C 27 dX7_trace_7 (by decide) (fun h7 => ?_) (fun h7 => ?_)
    · skip
      refine z_iconst C (v := (-1)) dX7_trace_27 rfl ?_
      refine z_iret C0 dX7_trace_28 ?_
      refine ⟨?_, rfl⟩
      unfold aTrace
      rw [inR_f2 h7, if_neg (by decide)]
    · skip
      refine z_iload_n C 1 dX7_trace_10 rfl ?_
      refine z_aload_n C 0 dX7_trace_11 rfl ?_
      refine mg_46 C dX7_trace_12 ?_
      refine z_icmp_ge C 27 dX7_trace_15 (by decide) (fun h15 => ?_) (fun h15 => ?_)
      · skip
        refine z_iconst C (v := (-1)) dX7_trace_27 rfl ?_
        refine z_iret C0 dX7_trace_28 ?_
        refine ⟨?_, rfl⟩
        unfold aTrace
        rw [if_pos (inR_t h1 (Int32.not_le.mp h7)), if_neg (Int32.not_lt.mpr h15)]
      · skip
        obtain ⟨q, hq, eq⟩ := i_rng (n := 20) h1 (Int32.not_le.mp h7) (by omega)
        refine z_aload_n C 0 dX7_trace_18 rfl ?_
        refine mg_45 C dX7_trace_19 ?_
        refine z_iload_n C 1 dX7_trace_22 rfl ?_
        refine ml_45 C q eq hq dX7_trace_23 ?_
        refine z_goto C 28 dX7_trace_24 (by decide) ?_
        refine z_iret C0 dX7_trace_28 ?_
        refine ⟨?_, rfl⟩
        unfold aTrace
        rw [if_pos (inR_t h1 (Int32.not_le.mp h7)), if_pos (Int32.not_le.mp h15), eq, nI_clamp (by omega)]
set_option maxRecDepth 100000 in
set_option maxHeartbeats 4000000 in
theorem c_X7_status (l : Launch) (E : zE) (M : zM) (w : Int32) : MM l E yX7_status cX7_status 2 (some .int) 1 [.ref (madr E.2.2.1 (0, 0, 0)), .int (w)] (M) (fun v M2 => v = some (.int (aStatus M.1 (M.2.1 46) (M.2.2.1 9) w)) ∧ M2 = M) := by
  refine MM.mk kq_X7 (Nat.le_of_ble_eq_true rfl) (fun K s C0 => ?_)
  have C := C0.c
  refine z_iload_n C 1 dX7_status_0 rfl ?_
  refine z_bipush C (v := 11) dX7_status_1 rfl ?_
  refine z_icmp_lt C 22 dX7_status_3 (by decide) (fun h3 => ?_) (fun h3 => ?_)
  · skip
    refine z_iload_n C 1 dX7_status_22 rfl ?_
    refine z_case (0) (fun h23_0 => ?_) (fun h23_0 => ?_)
    · refine z_tabIn C (0) (49) 72 h23_0 dX7_status_23 (by decide) (by decide) ?_
      refine z_aload_n C 0 dX7_status_72 rfl ?_
      refine mg_0 C dX7_status_73 ?_
      refine z_iret C0 dX7_status_76 ?_
      refine ⟨?_, rfl⟩
      subst h23_0
      rfl
    refine z_case (1) (fun h23_1 => ?_) (fun h23_1 => ?_)
    · refine z_tabIn C (1) (54) 77 h23_1 dX7_status_23 (by decide) (by decide) ?_
      refine z_aload_n C 0 dX7_status_77 rfl ?_
      refine mg_1 C dX7_status_78 ?_
      refine z_iret C0 dX7_status_81 ?_
      refine ⟨?_, rfl⟩
      subst h23_1
      rfl
    refine z_case (2) (fun h23_2 => ?_) (fun h23_2 => ?_)
    · refine z_tabIn C (2) (59) 82 h23_2 dX7_status_23 (by decide) (by decide) ?_
      refine z_aload_n C 0 dX7_status_82 rfl ?_
      refine mg_2 C dX7_status_83 ?_
      refine z_iret C0 dX7_status_86 ?_
      refine ⟨?_, rfl⟩
      subst h23_2
      rfl
    refine z_case (3) (fun h23_3 => ?_) (fun h23_3 => ?_)
    · refine z_tabIn C (3) (64) 87 h23_3 dX7_status_23 (by decide) (by decide) ?_
      refine z_aload_n C 0 dX7_status_87 rfl ?_
      refine mg_3 C dX7_status_88 ?_
      refine z_iret C0 dX7_status_91 ?_
      refine ⟨?_, rfl⟩
      subst h23_3
      rfl
    refine z_case (4) (fun h23_4 => ?_) (fun h23_4 => ?_)
    · refine z_tabIn C (4) (69) 92 h23_4 dX7_status_23 (by decide) (by decide) ?_
      refine z_aload_n C 0 dX7_status_92 rfl ?_
      refine mg_4 C dX7_status_93 ?_
      refine z_iret C0 dX7_status_96 ?_
      refine ⟨?_, rfl⟩
      subst h23_4
      rfl
    refine z_case (5) (fun h23_5 => ?_) (fun h23_5 => ?_)
    · refine z_tabIn C (5) (74) 97 h23_5 dX7_status_23 (by decide) (by decide) ?_
      refine z_aload_n C 0 dX7_status_97 rfl ?_
      refine mg_5 C dX7_status_98 ?_
      refine z_iret C0 dX7_status_101 ?_
      refine ⟨?_, rfl⟩
      subst h23_5
      rfl
    refine z_case (6) (fun h23_6 => ?_) (fun h23_6 => ?_)
    · refine z_tabIn C (6) (79) 102 h23_6 dX7_status_23 (by decide) (by decide) ?_
      refine z_aload_n C 0 dX7_status_102 rfl ?_
      refine mg_6 C dX7_status_103 ?_
      refine z_iret C0 dX7_status_106 ?_
      refine ⟨?_, rfl⟩
      subst h23_6
      rfl
    refine z_case (7) (fun h23_7 => ?_) (fun h23_7 => ?_)
    · refine z_tabIn C (7) (84) 107 h23_7 dX7_status_23 (by decide) (by decide) ?_
      refine z_aload_n C 0 dX7_status_107 rfl ?_
      refine mg_7 C dX7_status_108 ?_
      refine z_iret C0 dX7_status_111 ?_
      refine ⟨?_, rfl⟩
      subst h23_7
      rfl
    refine z_case (8) (fun h23_8 => ?_) (fun h23_8 => ?_)
    · refine z_tabIn C (8) (89) 112 h23_8 dX7_status_23 (by decide) (by decide) ?_
      refine z_aload_n C 0 dX7_status_112 rfl ?_
      refine mg_46 C dX7_status_113 ?_
      refine z_iret C0 dX7_status_116 ?_
      refine ⟨?_, rfl⟩
      subst h23_8
      rfl
    refine z_tabOut C 117 (by have q0 := lv_neT (a := (0)) h23_0 rfl; have q1 := lv_neT (a := (1)) h23_1 rfl; have q2 := lv_neT (a := (2)) h23_2 rfl; have q3 := lv_neT (a := (3)) h23_3 rfl; have q4 := lv_neT (a := (4)) h23_4 rfl; have q5 := lv_neT (a := (5)) h23_5 rfl; have q6 := lv_neT (a := (6)) h23_6 rfl; have q7 := lv_neT (a := (7)) h23_7 rfl; have q8 := lv_neT (a := (8)) h23_8 rfl; omega) dX7_status_23 (by decide) ?_
    refine z_iconst C (v := (-1)) dX7_status_117 rfl ?_
    refine z_iret C0 dX7_status_118 ?_
    refine ⟨?_, rfl⟩
    unfold aStatus
    rw [if_neg (inR9 h23_0 h23_1 h23_2 h23_3 h23_4 h23_5 h23_6 h23_7 h23_8), if_neg (fun z => z.1 h3)]
  · skip
    refine z_iload_n C 1 dX7_status_6 rfl ?_
    refine z_bipush C (v := 17) dX7_status_7 rfl ?_
    refine z_icmp_gt C 22 dX7_status_9 (by decide) (fun h9 => ?_) (fun h9 => ?_)
    · skip
      refine z_iload_n C 1 dX7_status_22 rfl ?_
      refine z_case (0) (fun h23_0 => ?_) (fun h23_0 => ?_)
      · refine z_tabIn C (0) (49) 72 h23_0 dX7_status_23 (by decide) (by decide) ?_
        refine z_aload_n C 0 dX7_status_72 rfl ?_
        refine mg_0 C dX7_status_73 ?_
        refine z_iret C0 dX7_status_76 ?_
        refine ⟨?_, rfl⟩
        subst h23_0
        rfl
      refine z_case (1) (fun h23_1 => ?_) (fun h23_1 => ?_)
      · refine z_tabIn C (1) (54) 77 h23_1 dX7_status_23 (by decide) (by decide) ?_
        refine z_aload_n C 0 dX7_status_77 rfl ?_
        refine mg_1 C dX7_status_78 ?_
        refine z_iret C0 dX7_status_81 ?_
        refine ⟨?_, rfl⟩
        subst h23_1
        rfl
      refine z_case (2) (fun h23_2 => ?_) (fun h23_2 => ?_)
      · refine z_tabIn C (2) (59) 82 h23_2 dX7_status_23 (by decide) (by decide) ?_
        refine z_aload_n C 0 dX7_status_82 rfl ?_
        refine mg_2 C dX7_status_83 ?_
        refine z_iret C0 dX7_status_86 ?_
        refine ⟨?_, rfl⟩
        subst h23_2
        rfl
      refine z_case (3) (fun h23_3 => ?_) (fun h23_3 => ?_)
      · refine z_tabIn C (3) (64) 87 h23_3 dX7_status_23 (by decide) (by decide) ?_
        refine z_aload_n C 0 dX7_status_87 rfl ?_
        refine mg_3 C dX7_status_88 ?_
        refine z_iret C0 dX7_status_91 ?_
        refine ⟨?_, rfl⟩
        subst h23_3
        rfl
      refine z_case (4) (fun h23_4 => ?_) (fun h23_4 => ?_)
      · refine z_tabIn C (4) (69) 92 h23_4 dX7_status_23 (by decide) (by decide) ?_
        refine z_aload_n C 0 dX7_status_92 rfl ?_
        refine mg_4 C dX7_status_93 ?_
        refine z_iret C0 dX7_status_96 ?_
        refine ⟨?_, rfl⟩
        subst h23_4
        rfl
      refine z_case (5) (fun h23_5 => ?_) (fun h23_5 => ?_)
      · refine z_tabIn C (5) (74) 97 h23_5 dX7_status_23 (by decide) (by decide) ?_
        refine z_aload_n C 0 dX7_status_97 rfl ?_
        refine mg_5 C dX7_status_98 ?_
        refine z_iret C0 dX7_status_101 ?_
        refine ⟨?_, rfl⟩
        subst h23_5
        rfl
      refine z_case (6) (fun h23_6 => ?_) (fun h23_6 => ?_)
      · refine z_tabIn C (6) (79) 102 h23_6 dX7_status_23 (by decide) (by decide) ?_
        refine z_aload_n C 0 dX7_status_102 rfl ?_
        refine mg_6 C dX7_status_103 ?_
        refine z_iret C0 dX7_status_106 ?_
        refine ⟨?_, rfl⟩
        subst h23_6
        rfl
      refine z_case (7) (fun h23_7 => ?_) (fun h23_7 => ?_)
      · refine z_tabIn C (7) (84) 107 h23_7 dX7_status_23 (by decide) (by decide) ?_
        refine z_aload_n C 0 dX7_status_107 rfl ?_
        refine mg_7 C dX7_status_108 ?_
        refine z_iret C0 dX7_status_111 ?_
        refine ⟨?_, rfl⟩
        subst h23_7
        rfl
      refine z_case (8) (fun h23_8 => ?_) (fun h23_8 => ?_)
      · refine z_tabIn C (8) (89) 112 h23_8 dX7_status_23 (by decide) (by decide) ?_
        refine z_aload_n C 0 dX7_status_112 rfl ?_
        refine mg_46 C dX7_status_113 ?_
        refine z_iret C0 dX7_status_116 ?_
        refine ⟨?_, rfl⟩
        subst h23_8
        rfl
      refine z_tabOut C 117 (by have q0 := lv_neT (a := (0)) h23_0 rfl; have q1 := lv_neT (a := (1)) h23_1 rfl; have q2 := lv_neT (a := (2)) h23_2 rfl; have q3 := lv_neT (a := (3)) h23_3 rfl; have q4 := lv_neT (a := (4)) h23_4 rfl; have q5 := lv_neT (a := (5)) h23_5 rfl; have q6 := lv_neT (a := (6)) h23_6 rfl; have q7 := lv_neT (a := (7)) h23_7 rfl; have q8 := lv_neT (a := (8)) h23_8 rfl; omega) dX7_status_23 (by decide) ?_
      refine z_iconst C (v := (-1)) dX7_status_117 rfl ?_
      refine z_iret C0 dX7_status_118 ?_
      refine ⟨?_, rfl⟩
      unfold aStatus
      rw [if_neg (inR9 h23_0 h23_1 h23_2 h23_3 h23_4 h23_5 h23_6 h23_7 h23_8), if_neg (fun z => z.2 h9)]
    · skip
      obtain ⟨q, hq, eq⟩ := i_s17 h3 h9
      refine z_aload_n C 0 dX7_status_12 rfl ?_
      refine mg_9 C dX7_status_13 ?_
      refine z_iload_n C 1 dX7_status_16 rfl ?_
      refine z_bipush C (v := 10) dX7_status_17 rfl ?_
      refine z_isub C dX7_status_19 ?_
      refine ml_9 C q eq hq dX7_status_20 ?_
      refine z_iret C0 dX7_status_21 ?_
      refine ⟨?_, rfl⟩
      unfold aStatus
      rw [if_neg (inR9_b h3), if_pos ⟨h3, h9⟩, eq, nI_clamp (by omega)]
set_option maxRecDepth 100000 in
set_option maxHeartbeats 4000000 in
theorem c_X7_image (l : Launch) (E : zE) (M : zM) : MM l E yX7_image cX7_image 1 (some .int) 3 [.ref (madr E.2.2.1 (0, 0, 0))] (M) (fun v M2 => v = some (.int (M.1.1 0)) ∧ M2 = mT (mI M 47 1) 36 (pkN (M.2.2.1 36) M.1 74)) := by
  refine MM.mk kq_X7 (Nat.le_of_ble_eq_true rfl) (fun K s C0 => ?_)
  have C := C0.c
  refine z_aload_n C 0 dX7_image_0 rfl ?_
  refine z_iconst C (v := 1) dX7_image_1 rfl ?_
  refine mp_47 C ⟨rfl, rfl⟩ dX7_image_2 ?_
  refine z_aload_n C 0 dX7_image_5 rfl ?_
  refine z_aload_n C 0 dX7_image_6 rfl ?_
  refine mg_36 C dX7_image_7 ?_
  refine z_iconst C (v := 0) dX7_image_10 rfl ?_
  refine z_callV2 C (c_allF l E (mI M 47 1) (k2 := 36) (by omega)) ⟨rfl, rfl⟩ rfl rfl q_X7_210 ⟨by decide, by decide⟩ (Nat.le_of_ble_eq_true rfl) dX7_image_11 (fun v F9 hp => ?_)
  obtain ⟨rfl, e9⟩ := hp
  rw [e9]
  clear e9 F9
  refine z_aload_n C 0 dX7_image_14 rfl ?_
  refine mg_0 C dX7_image_15 ?_
  refine z_iret C0 dX7_image_18 ?_
  exact ⟨rfl, rfl⟩
set_option maxRecDepth 100000 in
set_option maxHeartbeats 4000000 in
theorem lp_X7_restore {l : Launch} {E : zE} {K : zK} {s : State} (M : zM) (h4 : ¬ M.2.1 47 = 0) (C0 : MR l E K cX7_restore RX7 3 s 2 (some .int) (mpo M (if M.2.1 47 = 0 then -6 else 0) (M.2.2.1 36 66) (fun M2 => M2 = rsM (mG M (bkN M.1 (M.2.2.1 36) 74)) 8))) : ∀ (n2 : Nat) (j : Nat), (8 - j < n2) → (j ≤ 8) → Z K (MP E (rsM (mG M (bkN M.1 (M.2.2.1 36) 74)) j) s) 25 [(0, .ref (madr E.2.2.1 (0, 0, 0))), (1, .int (nI j))] [] := by
  have C := C0.c
  intro n2
  induction n2 with
  | zero => intro j hk hkl; exact absurd hk (Nat.not_lt_zero _)
  | succ n2 ih =>
    intro j hk hkl
    refine z_iload_n C 1 dX7_restore_25 rfl ?_
    refine z_bipush C (v := 8) dX7_restore_26 rfl ?_
    refine z_icmp_ge C 67 dX7_restore_28 (by decide) (fun h28 => ?_) (fun h28 => ?_)
    · skip
      refine z_aload_n C 0 dX7_restore_67 rfl ?_
      refine mg_0 C dX7_restore_68 ?_
      refine z_iret C0 dX7_restore_71 ?_
      have e : j = 8 := by
        rcases Nat.lt_or_ge j (8) with q | q
        · exact absurd h28 (nI_ge (b := 8) q (by omega))
        · omega
      subst e
      exact mpo.ok (by rw [if_neg h4]) (by rw [rsM_1]; rfl) rfl
    · skip
      have hj : j < 8 := by
        rcases Nat.lt_or_ge j (8) with q | q
        · exact q
        · exact absurd (nI_le (a := 8) q (by omega)) h28
      refine z_aload_n C 0 dX7_restore_31 rfl ?_
      refine mg_21 C dX7_restore_32 ?_
      refine z_iload_n C 1 dX7_restore_35 rfl ?_
      refine ml_21 C j rfl (by first | assumption | omega) dX7_restore_36 ?_
      refine z_iconst C (v := 2) dX7_restore_37 rfl ?_
      refine z_icmp_ne C 61 dX7_restore_38 (by decide) (fun h38 => ?_) (fun h38 => ?_)
      · skip
        refine z_iinc C (v := nI (j + 1)) 1 dX7_restore_61 rfl (nI_1 _) (by decide) ?_
        refine z_goto C 25 dX7_restore_64 (by decide) ?_
        refine z_pick [1, 0] rfl ?_
        have q := ih (j + 1) (by omega) (by omega)
        simp only [rsM, rsS] at q
        rw [if_neg (fun z => h38 z.1)] at q
        exact q
      · skip
        refine z_aload_n C 0 dX7_restore_41 rfl ?_
        refine mg_24 C dX7_restore_42 ?_
        refine z_iload_n C 1 dX7_restore_45 rfl ?_
        refine ml_24 C j rfl (by first | assumption | omega) dX7_restore_46 ?_
        refine z_aload_n C 0 dX7_restore_47 rfl ?_
        refine mg_0 C dX7_restore_48 ?_
        refine z_icmp_lt C 61 dX7_restore_51 (by decide) (fun h51 => ?_) (fun h51 => ?_)
        · skip
          refine z_iinc C (v := nI (j + 1)) 1 dX7_restore_61 rfl (nI_1 _) (by decide) ?_
          refine z_goto C 25 dX7_restore_64 (by decide) ?_
          refine z_pick [1, 0] rfl ?_
          have q := ih (j + 1) (by omega) (by omega)
          simp only [rsM, rsS] at q
          rw [if_neg (fun z => absurd h51 (Int32.not_lt.mpr z.2))] at q
          exact q
        · skip
          refine z_aload_n C 0 dX7_restore_54 rfl ?_
          refine mg_21 C dX7_restore_55 ?_
          refine z_iload_n C 1 dX7_restore_58 rfl ?_
          refine z_iconst C (v := 0) dX7_restore_59 rfl ?_
          refine ms_21 C j rfl (by first | assumption | omega) dX7_restore_60 ?_
          refine z_iinc C (v := nI (j + 1)) 1 dX7_restore_61 rfl (nI_1 _) (by decide) ?_
          refine z_goto C 25 dX7_restore_64 (by decide) ?_
          refine z_pick [1, 0] rfl ?_
          have q := ih (j + 1) (by omega) (by omega)
          simp only [rsM, rsS] at q
          rw [if_pos ⟨h38, Int32.not_lt.mp h51⟩] at q
          exact q
set_option maxRecDepth 100000 in
set_option maxHeartbeats 4000000 in
theorem c_X7_restore (l : Launch) (E : zE) (M : zM) : MM l E yX7_restore cX7_restore 2 (some .int) 3 [.ref (madr E.2.2.1 (0, 0, 0))] (M) (mpo M (if M.2.1 47 = 0 then -6 else 0) (M.2.2.1 36 66) (fun M2 => M2 = rsM (mG M (bkN M.1 (M.2.2.1 36) 74)) 8)) := by
  refine MM.mk kq_X7 (Nat.le_of_ble_eq_true rfl) (fun K s C0 => ?_)
  have C := C0.c
  refine z_aload_n C 0 dX7_restore_0 rfl ?_
  refine mg_47 C dX7_restore_1 ?_
  refine z_if_ne C 14 dX7_restore_4 (by decide) (fun h4 => ?_) (fun h4 => ?_)
  · skip
    refine z_aload_n C 0 dX7_restore_14 rfl ?_
    refine z_aload_n C 0 dX7_restore_15 rfl ?_
    refine mg_36 C dX7_restore_16 ?_
    refine z_iconst C (v := 1) dX7_restore_19 rfl ?_
    refine z_callV2 C (c_allB l E _ (k2 := 36) (by omega)) ⟨rfl, rfl⟩ rfl rfl q_X7_210 ⟨by decide, by decide⟩ (Nat.le_of_ble_eq_true rfl) dX7_restore_20 (fun v F9 hp => ?_)
    obtain ⟨rfl, e9⟩ := hp
    rw [e9]
    clear e9 F9
    refine z_iconst C (v := 0) dX7_restore_23 rfl ?_
    refine z_istore_n (i := 1) C dX7_restore_24 rfl (by decide) ?_
    refine z_pick [1, 0] rfl ?_
    exact lp_X7_restore M h4 C0 9 0 (by omega) (by omega)
  · skip
    refine z_aload_n C 0 dX7_restore_7 rfl ?_
    refine z_bipush C (v := (-6)) dX7_restore_8 rfl ?_
    refine z_callV1 C (c_X7_no l E _ (-6) 6 (by decide) (by decide) (by decide)) ⟨rfl, rfl⟩ rfl rfl q_X7_124 ⟨by decide, by decide⟩ (Nat.le_of_ble_eq_true rfl) dX7_restore_10 (fun v F9 hp => ?_)
    obtain ⟨rfl, e9⟩ := hp
    rw [e9]
    clear e9 F9
    refine z_iret C0 dX7_restore_13 ?_
    exact mpo.ref (by rw [if_pos h4]) (by decide)
