/-! the class: its calls, the next -/
theorem cheapS_lt {g : zGc} : ∀ {n : Nat}, 1 ≤ n → cheapS g n < n
  | n + 1, _ => by
    simp only [cheapS]
    split
    · omega
    · rcases Nat.eq_zero_or_pos n with q | q
      · subst q; exact Nat.lt_succ_self 0
      · have := cheapS_lt (g := g) q; omega
theorem cheapS_1 {g : zGc} : cheapS g 1 = 0 := if_neg Int32.lt_irrefl
set_option maxRecDepth 100000 in
set_option maxHeartbeats 4000000 in
theorem c_X6_picked (l : Launch) (E : zE) (F : zF) (hI : XI F) (a p : Int32) : XM l E yX6_picked cX6_picked 5 (some .int) 3 [.ref (xadr E.2.2.1 (0, 0, 0)), .int (a), .int (p)] (F) (xpo F (kPicked (F.1 0).1 a p) (aPicked (askS (F.1 0).1 p.toNatClampNeg) ((F.1 0).1.2.2 a.toNatClampNeg 0)) (fun F2 => F2 = F)) := by
  refine XM.mk kq_X6 (Nat.le_of_ble_eq_true rfl) (fun K s C0 => ?_)
  have C := C0.c
  obtain ⟨hz, hw, hsh⟩ := id hI
  obtain ⟨⟨eS, lS⟩, ⟨eC, lC⟩⟩ := id hz
  refine z_aload_n C 0 dX6_picked_0 rfl ?_
  refine z_iload_n C 1 dX6_picked_1 rfl ?_
  refine z_callV1 C (c_X6_isChild l E _ _) ⟨by decide, rfl, rfl⟩ rfl rfl q_X6_149 ⟨by decide, by decide⟩ (Nat.le_of_ble_eq_true rfl) dX6_picked_2 (fun v F9 hp => ?_)
  obtain ⟨rfl, e9⟩ := hp
  rw [e9]
  clear e9 F9
  refine z_if_eq C 16 dX6_picked_5 (by decide) (fun h5 => ?_) (fun h5 => ?_)
  · skip
    have h5 := bI_0 h5
    refine z_aload_n C 0 dX6_picked_16 rfl ?_
    refine z_iconst C (v := (-1)) dX6_picked_17 rfl ?_
    refine z_callV1 C (c_X6_refuse l E _ _) ⟨by decide, rfl, rfl⟩ rfl rfl q_X6_51 ⟨by decide, by decide⟩ (Nat.le_of_ble_eq_true rfl) dX6_picked_18 (fun v F9 hp => ?_)
    obtain ⟨rfl, e9⟩ := hp
    rw [e9]
    clear e9 F9
    refine z_iret C0 dX6_picked_21 ?_
    exact xpo.ref (by simp [kPicked, h5]) (by decide)
  · skip
    have h5 := bI_1 h5
    refine z_aload_n C 0 dX6_picked_8 rfl ?_
    refine z_iload_n C 2 dX6_picked_9 rfl ?_
    refine z_callV1 C (c_X6_isShop l E _ _) ⟨by decide, rfl, rfl⟩ rfl rfl q_X6_94 ⟨by decide, by decide⟩ (Nat.le_of_ble_eq_true rfl) dX6_picked_10 (fun v F9 hp => ?_)
    obtain ⟨rfl, e9⟩ := hp
    rw [e9]
    clear e9 F9
    refine z_if_ne C 22 dX6_picked_13 (by decide) (fun h13 => ?_) (fun h13 => ?_)
    · skip
      have h13 := bI_1 h13
      obtain ⟨c, hc, rfl⟩ := inR_of (n := nC (F.1 0).1) (by rw [← eC]; exact h5) (by omega)
      have hc6 : c < 6 := by omega
      obtain ⟨j, hj, rfl⟩ := inR_of (n := nS (F.1 0).1) (by rw [← eS]; exact h13) (by omega)
      have hj6 : j < 6 := by omega
      refine z_aload_n C 0 dX6_picked_22 rfl ?_
      refine xg_0_2 C kf_X6_22 dX6_picked_23 ?_
      refine xg_3c C (by decide) kf_X6_152 dX6_picked_26 ?_
      refine z_iload_n C 1 dX6_picked_29 rfl ?_
      refine xa_5 C (by decide) c rfl (by first | assumption | omega) dX6_picked_30 ?_
      refine xg_7 (k := 0) C (by decide) (by first | assumption | omega) (by decide) kf_X6_156 dX6_picked_31 ?_
      refine z_istore_n (i := 3) C dX6_picked_34 rfl (by decide) ?_
      refine z_aload_n C 1 dX6_picked_35 rfl ?_
      refine xg_0_2 C kf_X6_22 dX6_picked_36 ?_
      refine xg_3s C (by decide) kf_X6_104 dX6_picked_39 ?_
      refine z_iload_n C 3 dX6_picked_42 rfl ?_
      refine xa_4 C (by decide) j rfl (by first | assumption | omega) dX6_picked_43 ?_
      refine z_callV0 C (c_X4_asksNow l E _ (by first | assumption | omega) (by first | assumption | omega)) ⟨(by decide), (by first | assumption | omega)⟩ rfl rfl q_X6_145 ⟨by decide, by decide⟩ (Nat.le_of_ble_eq_true rfl) dX6_picked_44 (fun v F9 hp => ?_)
      obtain ⟨rfl, e9⟩ := hp
      rw [e9]
      clear e9 F9
      refine z_istore C dX6_picked_47 (by decide) ?_
      refine z_iload_n C 1 dX6_picked_49 rfl ?_
      refine z_iconst C (v := 1) dX6_picked_50 rfl ?_
      refine z_icmp_ge C 58 dX6_picked_51 (by decide) (fun h51 => ?_) (fun h51 => ?_)
      · skip
        refine z_iload C 0 dX6_picked_58 rfl ?_
        refine z_iload_n C 1 dX6_picked_60 rfl ?_
        refine z_iadd C dX6_picked_61 ?_
        refine z_iconst C (v := 1) dX6_picked_62 rfl ?_
        refine z_isub C dX6_picked_63 ?_
        refine z_iload_n C 1 dX6_picked_64 rfl ?_
        refine z_idiv C dX6_picked_65 (fun z => absurd h51 (by rw [z]; decide)) ?_
        refine z_iret C0 dX6_picked_66 ?_
        exact xpo.ok (by simp [kPicked, h5, h13, h51, Int32.not_lt.mpr h51]) (by rw [nI_clamp (by omega), nI_clamp (by omega)]; unfold aPicked; rw [if_neg (Int32.not_lt.mpr h51)]; rfl) rfl
      · skip
        refine z_iconst C (v := 0) dX6_picked_54 rfl ?_
        refine z_goto C 66 dX6_picked_55 (by decide) ?_
        refine z_iret C0 dX6_picked_66 ?_
        exact xpo.ok (by simp [kPicked, h5, h13, h51, Int32.not_le.mp h51]) (by rw [nI_clamp (by omega), nI_clamp (by omega)]; unfold aPicked; rw [if_pos (Int32.not_le.mp h51)]) rfl
    · skip
      have h13 := bI_0 h13
      refine z_aload_n C 0 dX6_picked_16 rfl ?_
      refine z_iconst C (v := (-1)) dX6_picked_17 rfl ?_
      refine z_callV1 C (c_X6_refuse l E _ _) ⟨by decide, rfl, rfl⟩ rfl rfl q_X6_51 ⟨by decide, by decide⟩ (Nat.le_of_ble_eq_true rfl) dX6_picked_18 (fun v F9 hp => ?_)
      obtain ⟨rfl, e9⟩ := hp
      rw [e9]
      clear e9 F9
      refine z_iret C0 dX6_picked_21 ?_
      exact xpo.ref (by simp [kPicked, h5, h13]) (by decide)
set_option maxRecDepth 100000 in
set_option maxHeartbeats 4000000 in
theorem lp_X6_cheapest {l : Launch} {E : zE} {K : zK} {s : State} (F : zF) (hI : XI F) (h7 : ¬ (F.1 0).1.1 0 = 0) (C0 : XR l E K cX6_cheapest RX6 3 s 3 (some .int) (xpo F (kCheap (F.1 0).1) (nI (cheapS (F.1 0).1 (nS (F.1 0).1))) (fun F2 => F2 = F))) : ∀ (n2 : Nat) (k : Nat), (nS (F.1 0).1 - k < n2) → (k ≤ nS (F.1 0).1) → (1 ≤ k) → Z K (XP E (F) s) 21 [(0, .ref (xadr E.2.2.1 (0, 0, 0))), (1, .int (nI (cheapS (F.1 0).1 k))), (2, .int (nI k))] [] := by
  have C := C0.c
  intro n2
  induction n2 with
  | zero => intro k hk hkl h1; exact absurd hk (Nat.not_lt_zero _)
  | succ n2 ih =>
    intro k hk hkl h1
    obtain ⟨hz, hw, hsh⟩ := id hI
    obtain ⟨⟨eS, lS⟩, ⟨eC, lC⟩⟩ := id hz
    refine z_iload_n C 2 dX6_cheapest_21 rfl ?_
    refine z_aload_n C 0 dX6_cheapest_22 rfl ?_
    refine xg_0_2 C kf_X6_22 dX6_cheapest_23 ?_
    refine xg_3 (k := 0) C (by decide) (by decide) kf_X6_116 dX6_cheapest_26 ?_
    rw [eS]
    refine z_icmp_ge C 67 dX6_cheapest_29 (by decide) (fun h29 => ?_) (fun h29 => ?_)
    · skip
      refine z_iload_n C 1 dX6_cheapest_67 rfl ?_
      refine z_iret C0 dX6_cheapest_68 ?_
      have e : k = nS (F.1 0).1 := by
        rcases Nat.lt_or_ge k (nS (F.1 0).1) with q | q
        · exact absurd h29 (nI_ge q (by omega))
        · omega
      subst e
      exact xpo.ok (by simp [kCheap, h7]) rfl rfl
    · skip
      have hk2 : k < nS (F.1 0).1 := by
        rcases Nat.lt_or_ge k (nS (F.1 0).1) with q | q
        · exact q
        · exact absurd (nI_le q (by omega)) h29
      have hk6 : k < 6 := by omega
      have hb6 : cheapS (F.1 0).1 k < 6 := Nat.lt_trans (cheapS_lt (by omega)) hk6
      refine z_aload_n C 0 dX6_cheapest_32 rfl ?_
      refine xg_0_2 C kf_X6_22 dX6_cheapest_33 ?_
      refine xg_3s C (by decide) kf_X6_104 dX6_cheapest_36 ?_
      refine z_iload_n C 2 dX6_cheapest_39 rfl ?_
      refine xa_4 C (by decide) k rfl (by first | assumption | omega) dX6_cheapest_40 ?_
      refine z_callV0 C (c_X4_asksNow l E _ (by first | assumption | omega) (by first | assumption | omega)) ⟨(by decide), (by first | assumption | omega)⟩ rfl rfl q_X6_145 ⟨by decide, by decide⟩ (Nat.le_of_ble_eq_true rfl) dX6_cheapest_41 (fun v F9 hp => ?_)
      obtain ⟨rfl, e9⟩ := hp
      rw [e9]
      clear e9 F9
      refine z_aload_n C 0 dX6_cheapest_44 rfl ?_
      refine xg_0_2 C kf_X6_22 dX6_cheapest_45 ?_
      refine xg_3s C (by decide) kf_X6_104 dX6_cheapest_48 ?_
      refine z_iload_n C 1 dX6_cheapest_51 rfl ?_
      refine xa_4 C (by decide) (cheapS (F.1 0).1 k) rfl (by first | assumption | omega) dX6_cheapest_52 ?_
      refine z_callV0 C (c_X4_asksNow l E _ (by first | assumption | omega) (by first | assumption | omega)) ⟨(by decide), (by first | assumption | omega)⟩ rfl rfl q_X6_145 ⟨by decide, by decide⟩ (Nat.le_of_ble_eq_true rfl) dX6_cheapest_53 (fun v F9 hp => ?_)
      obtain ⟨rfl, e9⟩ := hp
      rw [e9]
      clear e9 F9
      refine z_icmp_ge C 61 dX6_cheapest_56 (by decide) (fun h56 => ?_) (fun h56 => ?_)
      · skip
        refine z_iinc C (v := nI (k + 1)) 2 dX6_cheapest_61 rfl (nI_1 _) (by decide) ?_
        refine z_goto C 21 dX6_cheapest_64 (by decide) ?_
        refine z_pick [1, 2, 0] rfl ?_
        have q := ih (k + 1) (by omega) (by omega) (by omega)
        simp only [cheapS] at q
        rw [if_neg (show ¬ askS (F.1 0).1 k < askS (F.1 0).1 (cheapS (F.1 0).1 k) from Int32.not_lt.mpr h56)] at q
        exact q
      · skip
        refine z_iload_n C 2 dX6_cheapest_59 rfl ?_
        refine z_istore_n (i := 1) C dX6_cheapest_60 rfl (by decide) ?_
        refine z_iinc C (v := nI (k + 1)) 2 dX6_cheapest_61 rfl (nI_1 _) (by decide) ?_
        refine z_goto C 21 dX6_cheapest_64 (by decide) ?_
        refine z_pick [2, 1, 0] rfl ?_
        have q := ih (k + 1) (by omega) (by omega) (by omega)
        simp only [cheapS] at q
        rw [if_pos (show askS (F.1 0).1 k < askS (F.1 0).1 (cheapS (F.1 0).1 k) from Int32.not_le.mp h56)] at q
        exact q
set_option maxRecDepth 100000 in
set_option maxHeartbeats 4000000 in
theorem c_X6_cheapest (l : Launch) (E : zE) (F : zF) (hI : XI F) : XM l E yX6_cheapest cX6_cheapest 3 (some .int) 3 [.ref (xadr E.2.2.1 (0, 0, 0))] (F) (xpo F (kCheap (F.1 0).1) (nI (cheapS (F.1 0).1 (nS (F.1 0).1))) (fun F2 => F2 = F)) := by
  refine XM.mk kq_X6 (Nat.le_of_ble_eq_true rfl) (fun K s C0 => ?_)
  have C := C0.c
  obtain ⟨hz, hw, hsh⟩ := id hI
  obtain ⟨⟨eS, lS⟩, ⟨eC, lC⟩⟩ := id hz
  refine z_aload_n C 0 dX6_cheapest_0 rfl ?_
  refine xg_0_2 C kf_X6_22 dX6_cheapest_1 ?_
  refine xg_3 (k := 0) C (by decide) (by decide) kf_X6_116 dX6_cheapest_4 ?_
  refine z_if_ne C 17 dX6_cheapest_7 (by decide) (fun h7 => ?_) (fun h7 => ?_)
  · skip
    have h0 : 0 < nS (F.1 0).1 := by
      rcases Nat.eq_zero_or_pos (nS (F.1 0).1) with q | q
      · exact absurd (eS.trans (by rw [q]; rfl)) h7
      · exact q
    refine z_iconst C (v := 0) dX6_cheapest_17 rfl ?_
    refine z_istore_n (i := 1) C dX6_cheapest_18 rfl (by decide) ?_
    refine z_iconst C (v := 1) dX6_cheapest_19 rfl ?_
    refine z_istore_n (i := 2) C dX6_cheapest_20 rfl (by decide) ?_
    refine z_pick [2, 1, 0] rfl ?_
    have q := lp_X6_cheapest F hI h7 C0 (nS (F.1 0).1 + 1) 1 (by omega) (by omega) (by omega)
    rw [cheapS_1] at q
    exact q
  · skip
    refine z_aload_n C 0 dX6_cheapest_10 rfl ?_
    refine z_bipush C (v := (-5)) dX6_cheapest_11 rfl ?_
    refine z_callV1 C (c_X6_refuse l E _ _) ⟨by decide, rfl, rfl⟩ rfl rfl q_X6_51 ⟨by decide, by decide⟩ (Nat.le_of_ble_eq_true rfl) dX6_cheapest_13 (fun v F9 hp => ?_)
    obtain ⟨rfl, e9⟩ := hp
    rw [e9]
    clear e9 F9
    refine z_iret C0 dX6_cheapest_16 ?_
    exact xpo.ref (by simp [kCheap, h7]) (by decide)
set_option maxRecDepth 100000 in
set_option maxHeartbeats 4000000 in
theorem lp_X6_money {l : Launch} {E : zE} {K : zK} {s : State} (F : zF) (hI : XI F) (n : Int32) {nn : Nat} (en : n = nI nn) (hnn : nn ≤ 240) (h4 : inT n 240 = true) (T2 : zGf) (C0 : XR l E K cX6_money RX6 7 s 6 (some .int) (xpo F (kTime n) (aMoney ((run 0 n.toNatClampNeg (F.1 0).1).1 6 - (F.1 0).1.1 6) ((run 2 n.toNatClampNeg (F.1 0).1).1 6 - (F.1 0).1.1 6) (fsum (F.1 0).1 (nC (F.1 0).1))) (thO F))) : ∀ (n2 : Nat) (c : Nat), (nC (F.1 0).1 - c < n2) → (c ≤ nC (F.1 0).1) → Z K (XP E (sG F 1 T2) s) 34 [(0, .ref (xadr E.2.2.1 (0, 0, 0))), (2, .int ((run 0 nn (F.1 0).1).1 6 - (F.1 0).1.1 6)), (3, .int ((run 2 nn (F.1 0).1).1 6 - (F.1 0).1.1 6)), (4, .int (fsum (F.1 0).1 c)), (5, .int (nI c))] [] := by
  have C := C0.c
  intro n2
  induction n2 with
  | zero => intro c hk hkl; exact absurd hk (Nat.not_lt_zero _)
  | succ n2 ih =>
    intro c hk hkl
    obtain ⟨hz, hw, hsh⟩ := id hI
    obtain ⟨⟨eS, lS⟩, ⟨eC, lC⟩⟩ := id hz
    refine z_iload C 4 dX6_money_34 rfl ?_
    refine z_aload_n C 0 dX6_money_36 rfl ?_
    refine xg_0_2 C kf_X6_22 dX6_money_37 ?_
    refine xg_3 (k := 1) C (by decide) (by decide) kf_X6_123 dX6_money_40 ?_
    rw [show ((sG F 1 T2).1 0).1.1 1 = nI (nC (F.1 0).1) from eC]
    refine z_icmp_ge C 70 dX6_money_43 (by decide) (fun h43 => ?_) (fun h43 => ?_)
    · skip
      refine z_iload_n C 1 dX6_money_70 rfl ?_
      refine z_iload_n C 2 dX6_money_71 rfl ?_
      refine z_icmp_lt C 83 dX6_money_72 (by decide) (fun h72 => ?_) (fun h72 => ?_)
      · skip
        refine z_iload_n C 2 dX6_money_83 rfl ?_
        refine z_iload C 3 dX6_money_84 rfl ?_
        refine z_icmp_lt C 93 dX6_money_86 (by decide) (fun h86 => ?_) (fun h86 => ?_)
        · skip
          refine z_iconst C (v := 2) dX6_money_93 rfl ?_
          refine z_iret C0 dX6_money_94 ?_
          have e : c = nC (F.1 0).1 := by
            rcases Nat.lt_or_ge c (nC (F.1 0).1) with q | q
            · exact absurd h43 (nI_ge q (by omega))
            · omega
          subst e en
          exact xpo.ok (by simp [kTime, h4]) (by rw [nI_clamp (by omega)]; unfold aMoney; rw [if_neg (fun z => absurd z.1 (Int32.not_le.mpr h72)), if_neg (Int32.not_le.mpr h86)]) ⟨T2, rfl⟩
        · skip
          refine z_iconst C (v := 1) dX6_money_89 rfl ?_
          refine z_goto C 94 dX6_money_90 (by decide) ?_
          refine z_iret C0 dX6_money_94 ?_
          have e : c = nC (F.1 0).1 := by
            rcases Nat.lt_or_ge c (nC (F.1 0).1) with q | q
            · exact absurd h43 (nI_ge q (by omega))
            · omega
          subst e en
          exact xpo.ok (by simp [kTime, h4]) (by rw [nI_clamp (by omega)]; unfold aMoney; rw [if_neg (fun z => absurd z.1 (Int32.not_le.mpr h72)), if_pos (Int32.not_lt.mp h86)]) ⟨T2, rfl⟩
      · skip
        refine z_iload_n C 1 dX6_money_75 rfl ?_
        refine z_iload C 3 dX6_money_76 rfl ?_
        refine z_icmp_lt C 83 dX6_money_78 (by decide) (fun h78 => ?_) (fun h78 => ?_)
        · skip
          refine z_iload_n C 2 dX6_money_83 rfl ?_
          refine z_iload C 3 dX6_money_84 rfl ?_
          refine z_icmp_lt C 93 dX6_money_86 (by decide) (fun h86 => ?_) (fun h86 => ?_)
          · skip
            refine z_iconst C (v := 2) dX6_money_93 rfl ?_
            refine z_iret C0 dX6_money_94 ?_
            have e : c = nC (F.1 0).1 := by
              rcases Nat.lt_or_ge c (nC (F.1 0).1) with q | q
              · exact absurd h43 (nI_ge q (by omega))
              · omega
            subst e en
            exact xpo.ok (by simp [kTime, h4]) (by rw [nI_clamp (by omega)]; unfold aMoney; rw [if_neg (fun z => absurd z.2 (Int32.not_le.mpr h78)), if_neg (Int32.not_le.mpr h86)]) ⟨T2, rfl⟩
          · skip
            refine z_iconst C (v := 1) dX6_money_89 rfl ?_
            refine z_goto C 94 dX6_money_90 (by decide) ?_
            refine z_iret C0 dX6_money_94 ?_
            have e : c = nC (F.1 0).1 := by
              rcases Nat.lt_or_ge c (nC (F.1 0).1) with q | q
              · exact absurd h43 (nI_ge q (by omega))
              · omega
            subst e en
            exact xpo.ok (by simp [kTime, h4]) (by rw [nI_clamp (by omega)]; unfold aMoney; rw [if_neg (fun z => absurd z.2 (Int32.not_le.mpr h78)), if_pos (Int32.not_lt.mp h86)]) ⟨T2, rfl⟩
        · skip
          refine z_iconst C (v := 0) dX6_money_81 rfl ?_
          refine z_iret C0 dX6_money_82 ?_
          have e : c = nC (F.1 0).1 := by
            rcases Nat.lt_or_ge c (nC (F.1 0).1) with q | q
            · exact absurd h43 (nI_ge q (by omega))
            · omega
          subst e en
          exact xpo.ok (by simp [kTime, h4]) (by rw [nI_clamp (by omega)]; unfold aMoney; rw [if_pos ⟨Int32.not_lt.mp h72, Int32.not_lt.mp h78⟩]) ⟨T2, rfl⟩
    · skip
      have hc : c < nC (F.1 0).1 := by
        rcases Nat.lt_or_ge c (nC (F.1 0).1) with q | q
        · exact q
        · exact absurd (nI_le q (by omega)) h43
      have hc6 : c < 6 := by omega
      refine z_iload C 3 dX6_money_46 rfl ?_
      refine z_aload_n C 0 dX6_money_48 rfl ?_
      refine xg_0_2 C kf_X6_22 dX6_money_49 ?_
      refine xg_3c C (by decide) kf_X6_152 dX6_money_52 ?_
      refine z_iload C 4 dX6_money_55 rfl ?_
      refine xa_5 C (by decide) c rfl (by first | assumption | omega) dX6_money_57 ?_
      refine xg_7 (k := 3) C (by decide) (by first | assumption | omega) (by decide) kf_X6_167 dX6_money_58 ?_
      refine z_iadd C dX6_money_61 ?_
      refine z_istore C dX6_money_62 (by decide) ?_
      refine z_iinc C (v := nI (c + 1)) 4 dX6_money_64 rfl (nI_1 _) (by decide) ?_
      refine z_goto C 34 dX6_money_67 (by decide) ?_
      refine z_pick [2, 3, 4, 1, 0] rfl ?_
      exact ih (c + 1) (by omega) (by omega)
set_option maxRecDepth 100000 in
set_option maxHeartbeats 4000000 in
theorem c_X6_money (l : Launch) (E : zE) (F : zF) (hI : XI F) (n : Int32) : XM l E yX6_money cX6_money 6 (some .int) 7 [.ref (xadr E.2.2.1 (0, 0, 0)), .int (n)] (F) (xpo F (kTime n) (aMoney ((run 0 n.toNatClampNeg (F.1 0).1).1 6 - (F.1 0).1.1 6) ((run 2 n.toNatClampNeg (F.1 0).1).1 6 - (F.1 0).1.1 6) (fsum (F.1 0).1 (nC (F.1 0).1))) (thO F)) := by
  refine XM.mk kq_X6 (Nat.le_of_ble_eq_true rfl) (fun K s C0 => ?_)
  have C := C0.c
  obtain ⟨hz, hw, hsh⟩ := id hI
  obtain ⟨⟨eS, lS⟩, ⟨eC, lC⟩⟩ := id hz
  refine z_iload_n C 1 dX6_money_0 rfl ?_
  refine z_callS1 C (c_X6_isTime l E _ _) q_X6_202 ⟨by decide, by decide⟩ (Nat.le_of_ble_eq_true rfl) dX6_money_1 (fun v F9 hp => ?_)
  obtain ⟨rfl, e9⟩ := hp
  rw [e9]
  clear e9 F9
  refine z_if_ne C 14 dX6_money_4 (by decide) (fun h4 => ?_) (fun h4 => ?_)
  · skip
    have h4 := bI_1 h4
    obtain ⟨nn, hnn, rfl⟩ := inT_of (n := 240) h4 (by omega)
    refine z_aload_n C 0 dX6_money_14 rfl ?_
    refine z_iconst C (v := 0) dX6_money_15 rfl ?_
    refine z_iload_n C 1 dX6_money_16 rfl ?_
    refine z_callV2 C (c_X6_foresee l E _ hI _ (by first | assumption | omega)) ⟨by decide, rfl, rfl⟩ rfl rfl q_X6_205 ⟨by decide, by decide⟩ (Nat.le_of_ble_eq_true rfl) dX6_money_17 (fun v F9 hp => ?_)
    obtain ⟨T, e9, hT, rfl⟩ := hp
    rw [e9]
    clear e9 F9
    have hzT : gz T.1 := (hT.tr (eqv.rf _)).z (sk_run.z hz)
    have eTS : nS T.1 = nS (F.1 0).1 := hT.S.trans sk_run.S
    have eTC : nC T.1 = nC (F.1 0).1 := hT.C.trans sk_run.C
    refine z_istore_n (i := 2) C dX6_money_20 rfl (by decide) ?_
    refine z_aload_n C 1 dX6_money_21 rfl ?_
    refine z_iconst C (v := 2) dX6_money_22 rfl ?_
    refine z_iload_n C 2 dX6_money_23 rfl ?_
    refine z_callV2 C (c_X6_foresee l E (sG F 1 T) (hI.th T) _ (by first | assumption | omega)) ⟨by decide, rfl, rfl⟩ rfl rfl q_X6_205 ⟨by decide, by decide⟩ (Nat.le_of_ble_eq_true rfl) dX6_money_24 (fun v F9 hp => ?_)
    obtain ⟨T2, e9, hT2, rfl⟩ := hp
    rw [e9, sG_sG]
    clear e9 F9
    refine z_istore_n (i := 3) C dX6_money_27 rfl (by decide) ?_
    refine z_iconst C (v := 0) dX6_money_28 rfl ?_
    refine z_istore C dX6_money_29 (by decide) ?_
    refine z_iconst C (v := 0) dX6_money_31 rfl ?_
    refine z_istore C dX6_money_32 (by decide) ?_
    refine z_pick [4, 3, 2, 1, 0] rfl ?_
    exact lp_X6_money F hI (nI nn) rfl hnn h4 T2 C0 (nC (F.1 0).1 + 1) 0 (by omega) (by omega)
  · skip
    have h4 := bI_0 h4
    refine z_aload_n C 0 dX6_money_7 rfl ?_
    refine z_bipush C (v := (-6)) dX6_money_8 rfl ?_
    refine z_callV1 C (c_X6_refuse l E _ _) ⟨by decide, rfl, rfl⟩ rfl rfl q_X6_51 ⟨by decide, by decide⟩ (Nat.le_of_ble_eq_true rfl) dX6_money_10 (fun v F9 hp => ?_)
    obtain ⟨rfl, e9⟩ := hp
    rw [e9]
    clear e9 F9
    refine z_iret C0 dX6_money_13 ?_
    exact xpo.ref (by simp [kTime, h4]) (by decide)
set_option maxRecDepth 100000 in
set_option maxHeartbeats 4000000 in
theorem lp_X6_inked {l : Launch} {E : zE} {K : zK} {s : State} (F : zF) (hI : XI F) (n : Int32) {nn : Nat} (en : n = nI nn) (hnn : nn ≤ 60) (h4 : inT n 60 = true) (C0 : XR l E K cX6_inked RX6 6 s 5 (some .int) (xpo F (kInked n) (inkB (F.1 0).1 n.toNatClampNeg 21).1 (thO F))) : ∀ (n2 : Nat) (v : Nat) (X : zGf), (21 - v < n2) → (v ≤ 21) → Z K (XP E (sG F 1 X) s) 24 [(0, .ref (xadr E.2.2.1 (0, 0, 0))), (1, .int (nI nn)), (2, .int ((inkB (F.1 0).1 nn v).1)), (3, .int ((inkB (F.1 0).1 nn v).2)), (4, .int (nI v))] [] := by
  have C := C0.c
  intro n2
  induction n2 with
  | zero => intro v X hk hkl; exact absurd hk (Nat.not_lt_zero _)
  | succ n2 ih =>
    intro v X hk hkl
    obtain ⟨hz, hw, hsh⟩ := id hI
    obtain ⟨⟨eS, lS⟩, ⟨eC, lC⟩⟩ := id hz
    refine z_iload C 4 dX6_inked_24 rfl ?_
    refine z_bipush C (v := 20) dX6_inked_26 rfl ?_
    refine z_icmp_gt C 104 dX6_inked_28 (by decide) (fun h28 => ?_) (fun h28 => ?_)
    · skip
      refine z_iload_n C 2 dX6_inked_104 rfl ?_
      refine z_iret C0 dX6_inked_105 ?_
      have e : v = 21 := by
        rcases Nat.lt_or_ge v 21 with q | q
        · exact absurd ((nI_ltI (a := 20) (b := v) (by omega) (by omega)).mp h28) (by omega)
        · omega
      subst e en
      exact xpo.ok (by simp [kInked, h4]) (by rw [nI_clamp (by omega)]) ⟨X, rfl⟩
    · skip
      have hv2 : v < 21 := by
        rcases Nat.lt_or_ge v 21 with q | q
        · exact q
        · exact absurd ((nI_ltI (a := 20) (b := v) (by omega) (by omega)).mpr (by omega)) h28
      refine z_aload_n C 0 dX6_inked_31 rfl ?_
      refine xg_0_3 C kf_X6_26 dX6_inked_32 ?_
      refine z_aload_n C 0 dX6_inked_35 rfl ?_
      refine xg_0_2 C kf_X6_22 dX6_inked_36 ?_
      refine z_callV1 C (cg_X1_takeAll l E (sG F 1 X) (gi := 1) (by decide) (gj := 0) (by decide) (by decide) hz) ⟨(by decide), rfl⟩ rfl rfl q_X6_192 ⟨by decide, by decide⟩ (Nat.le_of_ble_eq_true rfl) dX6_inked_39 (fun v F9 hp => ?_)
      obtain ⟨rfl, e9⟩ := hp
      rw [e9]
      clear e9 F9
      rw [sG_sG]
      have eT : eqv (layG (F.1 0).1 X.1) (F.1 0).1 := lay_eqv _ _
      refine z_aload_n C 0 dX6_inked_42 rfl ?_
      refine xg_0_3 C kf_X6_26 dX6_inked_43 ?_
      refine z_iload C 4 dX6_inked_46 rfl ?_
      refine xp_3 (k := 4) C (by decide) (by decide) kf_X6_176 dX6_inked_48 ?_
      rw [sG_sG]
      have eK : eqv (gSc (layG (F.1 0).1 X.1) 4 (nI v)) (gSc (F.1 0).1 4 (nI v)) := e_sc eT (by decide) (by decide)
      have zK : gz (gSc (F.1 0).1 4 (nI v)) := (sk_sc (by decide) (by decide)).z hz
      have zT : gz (gSc (layG (F.1 0).1 X.1) 4 (nI v)) := eK.z zK
      have wT : wn (gSc (layG (F.1 0).1 X.1) 4 (nI v)) := eK.w ((sk_sc (by decide) (by decide)).w hw)
      refine z_aload_n C 0 dX6_inked_51 rfl ?_
      refine xg_0_3 C kf_X6_26 dX6_inked_52 ?_
      refine z_iconst C (v := 2) dX6_inked_55 rfl ?_
      refine z_iload_n C 1 dX6_inked_56 rfl ?_
      refine z_callV2 C (cg_X1_passMinutes l E (sG F 1 (gSc (layG (F.1 0).1 X.1) 4 (nI v), X.2)) (gi := 1) (by decide) zT wT (by first | assumption | omega)) ⟨(by decide), rfl⟩ rfl rfl q_X6_222 ⟨by decide, by decide⟩ (Nat.le_of_ble_eq_true rfl) dX6_inked_57 (fun v F9 hp => ?_)
      obtain ⟨rfl, e9⟩ := hp
      rw [e9]
      clear e9 F9
      rw [sG_sG]
      have eR := e_run (rule := 2) (n := nn) (A := (gSc (layG (F.1 0).1 X.1) 4 (nI v), X.2)) eK zK
      refine z_aload_n C 0 dX6_inked_60 rfl ?_
      refine xg_0_3 C kf_X6_26 dX6_inked_61 ?_
      refine xg_3 (k := 6) C (by decide) (by decide) kf_X6_225 dX6_inked_64 ?_
      refine z_aload_n C 0 dX6_inked_67 rfl ?_
      refine xg_0_2 C kf_X6_22 dX6_inked_68 ?_
      refine xg_3 (k := 6) C (by decide) (by decide) kf_X6_225 dX6_inked_71 ?_
      refine z_isub C dX6_inked_74 ?_
      refine z_iload_n C 3 dX6_inked_75 rfl ?_
      refine z_icmp_le C 98 dX6_inked_76 (by decide) (fun h76 => ?_) (fun h76 => ?_)
      · skip
        refine z_iinc C (v := nI (v + 1)) 4 dX6_inked_98 rfl (nI_1 _) (by decide) ?_
        refine z_goto C 24 dX6_inked_101 (by decide) ?_
        refine z_pick [1, 2, 3, 4, 0] rfl ?_
        have eD : inkD (F.1 0).1 nn v = (minutes 2 nn (gSc (layG (F.1 0).1 X.1) 4 (nI v), X.2)).1.1 6 - (F.1 0).1.1 6 := by unfold inkD; rw [eR.1 6 (by omega)]
        have q := ih (v + 1) (minutes 2 nn (gSc (layG (F.1 0).1 X.1) 4 (nI v), X.2)) (by omega) (by omega)
        simp only [inkB] at q
        rw [if_neg (by rw [eD]; exact Int32.not_lt.mpr h76)] at q
        exact q
      · skip
        refine z_aload_n C 0 dX6_inked_79 rfl ?_
        refine xg_0_3 C kf_X6_26 dX6_inked_80 ?_
        refine xg_3 (k := 6) C (by decide) (by decide) kf_X6_225 dX6_inked_83 ?_
        refine z_aload_n C 0 dX6_inked_86 rfl ?_
        refine xg_0_2 C kf_X6_22 dX6_inked_87 ?_
        refine xg_3 (k := 6) C (by decide) (by decide) kf_X6_225 dX6_inked_90 ?_
        refine z_isub C dX6_inked_93 ?_
        refine z_istore_n (i := 3) C dX6_inked_94 rfl (by decide) ?_
        refine z_iload C 4 dX6_inked_95 rfl ?_
        refine z_istore_n (i := 2) C dX6_inked_97 rfl (by decide) ?_
        refine z_iinc C (v := nI (v + 1)) 4 dX6_inked_98 rfl (nI_1 _) (by decide) ?_
        refine z_goto C 24 dX6_inked_101 (by decide) ?_
        refine z_pick [3, 4, 1, 2, 0] rfl ?_
        have eD : inkD (F.1 0).1 nn v = (minutes 2 nn (gSc (layG (F.1 0).1 X.1) 4 (nI v), X.2)).1.1 6 - (F.1 0).1.1 6 := by unfold inkD; rw [eR.1 6 (by omega)]
        have q := ih (v + 1) (minutes 2 nn (gSc (layG (F.1 0).1 X.1) 4 (nI v), X.2)) (by omega) (by omega)
        simp only [inkB] at q
        rw [if_pos (by rw [eD]; exact Int32.not_le.mp h76), eD] at q
        exact q
set_option maxRecDepth 100000 in
set_option maxHeartbeats 4000000 in
theorem c_X6_inked (l : Launch) (E : zE) (F : zF) (hI : XI F) (n : Int32) : XM l E yX6_inked cX6_inked 5 (some .int) 6 [.ref (xadr E.2.2.1 (0, 0, 0)), .int (n)] (F) (xpo F (kInked n) (inkB (F.1 0).1 n.toNatClampNeg 21).1 (thO F)) := by
  refine XM.mk kq_X6 (Nat.le_of_ble_eq_true rfl) (fun K s C0 => ?_)
  have C := C0.c
  obtain ⟨hz, hw, hsh⟩ := id hI
  obtain ⟨⟨eS, lS⟩, ⟨eC, lC⟩⟩ := id hz
  refine z_iload_n C 1 dX6_inked_0 rfl ?_
  refine z_if_lt C 10 dX6_inked_1 (by decide) (fun h1 => ?_) (fun h1 => ?_)
  · skip
    refine z_aload_n C 0 dX6_inked_10 rfl ?_
    refine z_bipush C (v := (-6)) dX6_inked_11 rfl ?_
    refine z_callV1 C (c_X6_refuse l E _ _) ⟨by decide, rfl, rfl⟩ rfl rfl q_X6_51 ⟨by decide, by decide⟩ (Nat.le_of_ble_eq_true rfl) dX6_inked_13 (fun v F9 hp => ?_)
    obtain ⟨rfl, e9⟩ := hp
    rw [e9]
    clear e9 F9
    refine z_iret C0 dX6_inked_16 ?_
    exact xpo.ref (by simp [kInked, inT_f1 h1]) (by decide)
  · skip
    refine z_iload_n C 1 dX6_inked_4 rfl ?_
    refine z_bipush C (v := 60) dX6_inked_5 rfl ?_
    refine z_icmp_le C 17 dX6_inked_7 (by decide) (fun h7 => ?_) (fun h7 => ?_)
    · skip
      have h4 : inT n 60 = true := inT_t h1 h7
      obtain ⟨nn, hnn, rfl⟩ := inT_of (n := 60) h4 (by omega)
      refine z_iconst C (v := 0) dX6_inked_17 rfl ?_
      refine z_istore_n (i := 2) C dX6_inked_18 rfl (by decide) ?_
      refine z_iconst C (v := (-1)) dX6_inked_19 rfl ?_
      refine z_istore_n (i := 3) C dX6_inked_20 rfl (by decide) ?_
      refine z_iconst C (v := 0) dX6_inked_21 rfl ?_
      refine z_istore C dX6_inked_22 (by decide) ?_
      refine z_pick [3, 4, 2, 1, 0] rfl ?_
      refine z_mono (P2 := XP E (sG F 1 (F.1 1)) s) (fun H h => by rw [sG_id]; exact h) ?_
      exact lp_X6_inked F hI (nI nn) rfl hnn h4 C0 22 0 _ (by omega) (by omega)
    · skip
      refine z_aload_n C 0 dX6_inked_10 rfl ?_
      refine z_bipush C (v := (-6)) dX6_inked_11 rfl ?_
      refine z_callV1 C (c_X6_refuse l E _ _) ⟨by decide, rfl, rfl⟩ rfl rfl q_X6_51 ⟨by decide, by decide⟩ (Nat.le_of_ble_eq_true rfl) dX6_inked_13 (fun v F9 hp => ?_)
      obtain ⟨rfl, e9⟩ := hp
      rw [e9]
      clear e9 F9
      refine z_iret C0 dX6_inked_16 ?_
      exact xpo.ref (by simp [kInked, inT_f2 (Int32.not_le.mp h7)]) (by decide)
