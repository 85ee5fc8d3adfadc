/-! the class: deeds -/
set_option maxRecDepth 100000 in
set_option maxHeartbeats 4000000 in
theorem c_X1_can (l : Launch) (E : zE) (F : zF) (G : zGf) {gi : Nat} (hg : gi < 4) (hz : gz G.1) {c : Nat} (hc : c < nC G.1) (d : Int32) : XM l E yX1_can cX1_can 4 (some .boolean) 3 [.ref (xadr E.2.2.1 (3, gi, 0)), .int (nI c), .int (d)] (sG F gi G) (fun v F2 => v = some (.int (bI (can G.1 c d))) ∧ F2 = sG F gi G) := by
  refine XM.mk kq_X1 (Nat.le_of_ble_eq_true rfl) (fun K s C0 => ?_)
  have C := C0.c
  obtain ⟨⟨eS, lS⟩, ⟨eC, lC⟩⟩ := id hz
  have hc6 : c < 6 := Nat.lt_of_lt_of_le hc lC
  refine z_iload_n C 1 dX1_can_0 rfl ?_
  refine z_if_lt C 12 dX1_can_1 (by decide) (fun h1 => ?_) (fun h1 => ?_)
  · exact absurd h1 (nI_pos (by omega))
  · skip
    refine z_iload_n C 1 dX1_can_4 rfl ?_
    refine z_aload_n C 0 dX1_can_5 rfl ?_
    refine xg_3F (k := 1) C (by first | assumption | omega) (by decide) kf_X1_38 dX1_can_6 ?_
    refine z_icmp_lt C 14 dX1_can_9 (by decide) (fun h9 => ?_) (fun h9 => ?_)
    · skip
      refine z_iload_n C 2 dX1_can_14 rfl ?_
      refine z_case (0) (fun h15_0 => ?_) (fun h15_0 => ?_)
      · refine z_tabIn C (0) (29) 44 h15_0 dX1_can_15 (by decide) (by decide) ?_
        refine z_iconst C (v := 1) dX1_can_44 rfl ?_
        refine z_zret C0 rfl dX1_can_45 ?_
        exact ⟨by simp [can, bI, Int32.not_le, *], rfl⟩
      refine z_case (1) (fun h15_1 => ?_) (fun h15_1 => ?_)
      · refine z_tabIn C (1) (31) 46 h15_1 dX1_can_15 (by decide) (by decide) ?_
        refine z_aload_n C 0 dX1_can_46 rfl ?_
        refine xg_3F (k := 5) C (by first | assumption | omega) (by decide) kf_X1_27 dX1_can_47 ?_
        refine z_if_le C 57 dX1_can_50 (by decide) (fun h50 => ?_) (fun h50 => ?_)
        · skip
          refine z_iconst C (v := 0) dX1_can_57 rfl ?_
          refine z_zret C0 rfl dX1_can_58 ?_
          exact ⟨by simp [can, bI, Int32.not_le, *], rfl⟩
        · skip
          refine z_iconst C (v := 1) dX1_can_53 rfl ?_
          refine z_goto C 58 dX1_can_54 (by decide) ?_
          refine z_zret C0 rfl dX1_can_58 ?_
          exact ⟨by simp [can, bI, Int32.not_le, *], rfl⟩
      refine z_case (2) (fun h15_2 => ?_) (fun h15_2 => ?_)
      · refine z_tabIn C (2) (44) 59 h15_2 dX1_can_15 (by decide) (by decide) ?_
        refine z_aload_n C 0 dX1_can_59 rfl ?_
        refine xg_3F (k := 4) C (by first | assumption | omega) (by decide) kf_X1_23 dX1_can_60 ?_
        refine z_if_le C 82 dX1_can_63 (by decide) (fun h63 => ?_) (fun h63 => ?_)
        · skip
          refine z_iconst C (v := 0) dX1_can_82 rfl ?_
          refine z_zret C0 rfl dX1_can_83 ?_
          refine ⟨?_, rfl⟩
          first
            | (simp [can, bI, Int32.not_le, *]; done)
            | (have q := Int32.not_lt.mpr h63; simp [can, bI, q, h15_0, h15_1, h15_2])
            | (have q := Int32.not_lt.mpr h75; simp [can, bI, q, h15_0, h15_1, h15_2])
        · skip
          refine z_aload_n C 0 dX1_can_66 rfl ?_
          refine xg_3c C (by first | assumption | omega) kf_X1_19 dX1_can_67 ?_
          refine z_iload_n C 1 dX1_can_70 rfl ?_
          refine xa_5 C (by first | assumption | omega) c rfl (by first | assumption | omega) dX1_can_71 ?_
          refine xg_7F (k := 1) C (by first | assumption | omega) (by first | assumption | omega) (by decide) kf_X1_66 dX1_can_72 ?_
          refine z_if_le C 82 dX1_can_75 (by decide) (fun h75 => ?_) (fun h75 => ?_)
          · skip
            refine z_iconst C (v := 0) dX1_can_82 rfl ?_
            refine z_zret C0 rfl dX1_can_83 ?_
            refine ⟨?_, rfl⟩
            first
              | (simp [can, bI, Int32.not_le, *]; done)
              | (have q := Int32.not_lt.mpr h63; simp [can, bI, q, h15_0, h15_1, h15_2])
              | (have q := Int32.not_lt.mpr h75; simp [can, bI, q, h15_0, h15_1, h15_2])
          · skip
            refine z_iconst C (v := 1) dX1_can_78 rfl ?_
            refine z_goto C 83 dX1_can_79 (by decide) ?_
            refine z_zret C0 rfl dX1_can_83 ?_
            refine ⟨?_, rfl⟩
            first
              | (simp [can, bI, Int32.not_le, *]; done)
              | (have q := Int32.not_lt.mpr h63; simp [can, bI, q, h15_0, h15_1, h15_2])
              | (have q := Int32.not_lt.mpr h75; simp [can, bI, q, h15_0, h15_1, h15_2])
      refine z_case (3) (fun h15_3 => ?_) (fun h15_3 => ?_)
      · refine z_tabIn C (3) (69) 84 h15_3 dX1_can_15 (by decide) (by decide) ?_
        refine z_aload_n C 0 dX1_can_84 rfl ?_
        refine xg_3c C (by first | assumption | omega) kf_X1_19 dX1_can_85 ?_
        refine z_iload_n C 1 dX1_can_88 rfl ?_
        refine xa_5 C (by first | assumption | omega) c rfl (by first | assumption | omega) dX1_can_89 ?_
        refine xg_7F (k := 3) C (by first | assumption | omega) (by first | assumption | omega) (by decide) kf_X1_69 dX1_can_90 ?_
        refine z_if_le C 100 dX1_can_93 (by decide) (fun h93 => ?_) (fun h93 => ?_)
        · skip
          refine z_iconst C (v := 0) dX1_can_100 rfl ?_
          refine z_zret C0 rfl dX1_can_101 ?_
          exact ⟨by simp [can, bI, Int32.not_le, *], rfl⟩
        · skip
          refine z_iconst C (v := 1) dX1_can_96 rfl ?_
          refine z_goto C 101 dX1_can_97 (by decide) ?_
          refine z_zret C0 rfl dX1_can_101 ?_
          exact ⟨by simp [can, bI, Int32.not_le, *], rfl⟩
      refine z_tabOut C 102 (by have q0 := lv_neT (a := (0)) h15_0 rfl; have q1 := lv_neT (a := (1)) h15_1 rfl; have q2 := lv_neT (a := (2)) h15_2 rfl; have q3 := lv_neT (a := (3)) h15_3 rfl; omega) dX1_can_15 (by decide) ?_
      refine z_iload_n C 2 dX1_can_102 rfl ?_
      refine z_bipush C (v := 10) dX1_can_103 rfl ?_
      refine z_icmp_lt C 119 dX1_can_105 (by decide) (fun h105 => ?_) (fun h105 => ?_)
      · skip
        refine z_iconst C (v := 0) dX1_can_119 rfl ?_
        refine z_zret C0 rfl dX1_can_120 ?_
        refine ⟨?_, rfl⟩
        first
          | (simp only [can, if_neg h15_0, if_neg h15_1, if_neg h15_2, if_neg h15_3, if_neg h105, if_pos (Int32.not_lt.mp h116)]; rfl)
          | (simp only [can, if_neg h15_0, if_neg h15_1, if_neg h15_2, if_neg h15_3, if_pos h105]; rfl)
      · skip
        refine z_iload_n C 2 dX1_can_108 rfl ?_
        refine z_bipush C (v := 10) dX1_can_109 rfl ?_
        refine z_isub C dX1_can_111 ?_
        refine z_aload_n C 0 dX1_can_112 rfl ?_
        refine xg_3F (k := 0) C (by first | assumption | omega) (by decide) kf_X1_35 dX1_can_113 ?_
        refine z_icmp_lt C 121 dX1_can_116 (by decide) (fun h116 => ?_) (fun h116 => ?_)
        · skip
          obtain ⟨j, hj, ej⟩ := i_sub10 h105 (by rw [eS] at h116; exact h116) lS
          have hj6 : j < 6 := Nat.lt_of_lt_of_le hj lS
          refine z_iload_n C 2 dX1_can_121 rfl ?_
          refine z_bipush C (v := 10) dX1_can_122 rfl ?_
          refine z_isub C dX1_can_124 ?_
          refine z_top (nI j) (ej) ?_
          refine z_istore_n (i := 3) C dX1_can_125 rfl (by decide) ?_
          refine z_aload_n C 1 dX1_can_126 rfl ?_
          refine z_aload_n C 1 dX1_can_127 rfl ?_
          refine xg_3c C (by first | assumption | omega) kf_X1_19 dX1_can_128 ?_
          refine z_iload_n C 2 dX1_can_131 rfl ?_
          refine xa_5 C (by first | assumption | omega) c rfl (by first | assumption | omega) dX1_can_132 ?_
          refine z_iload_n C 0 dX1_can_133 rfl ?_
          refine z_aload_n C 1 dX1_can_134 rfl ?_
          refine xg_3s C (by first | assumption | omega) kf_X1_11 dX1_can_135 ?_
          refine z_iload_n C 0 dX1_can_138 rfl ?_
          refine xa_4 C (by first | assumption | omega) j rfl (by first | assumption | omega) dX1_can_139 ?_
          refine z_callV0 C (cf_X4_asksNow l E _ _ (by first | assumption | omega) (by first | assumption | omega)) ⟨(by first | assumption | omega), (by first | assumption | omega)⟩ rfl rfl q_X1_72 ⟨by decide, by decide⟩ (Nat.le_of_ble_eq_true rfl) dX1_can_140 (fun v F9 hp => ?_)
          obtain ⟨rfl, rfl⟩ := hp
          refine z_callV3 C (c_X1_canBuy l E _ _ (by first | assumption | omega) (by first | assumption | omega) (by first | assumption | omega) _) ⟨(by first | assumption | omega), rfl⟩ rfl rfl q_X1_76 ⟨by decide, by decide⟩ (Nat.le_of_ble_eq_true rfl) dX1_can_143 (fun v F9 hp => ?_)
          obtain ⟨rfl, rfl⟩ := hp
          refine z_zret C0 (bI_nar _) dX1_can_146 ?_
          refine ⟨?_, rfl⟩
          simp only [can, if_neg h15_0, if_neg h15_1, if_neg h15_2, if_neg h15_3, if_neg h105, ej, nI_cl6 (show j < 1000 by omega)]
          rw [if_neg (by rw [← ej]; exact Int32.not_le.mpr h116)]
          rfl
        · skip
          refine z_iconst C (v := 0) dX1_can_119 rfl ?_
          refine z_zret C0 rfl dX1_can_120 ?_
          refine ⟨?_, rfl⟩
          first
            | (simp only [can, if_neg h15_0, if_neg h15_1, if_neg h15_2, if_neg h15_3, if_neg h105, if_pos (Int32.not_lt.mp h116)]; rfl)
            | (simp only [can, if_neg h15_0, if_neg h15_1, if_neg h15_2, if_neg h15_3, if_pos h105]; rfl)
    · exact absurd (by rw [eC]; exact nI_lt hc (by omega)) h9
theorem cg_X1_can (l : Launch) (E : zE) (F : zF) {gi : Nat} (hg : gi < 4) (hz : gz (F.1 gi).1) {c : Nat} (hc : c < nC (F.1 gi).1) (d : Int32) : XM l E yX1_can cX1_can 4 (some .boolean) 3 [.ref (xadr E.2.2.1 (3, gi, 0)), .int (nI c), .int d] F (fun v F2 => v = some (.int (bI (can (F.1 gi).1 c d))) ∧ F2 = F) := by
  have h := c_X1_can l E F (F.1 gi) hg hz hc d
  rw [sG_id] at h
  exact h
set_option maxRecDepth 100000 in
set_option maxHeartbeats 4000000 in
theorem lp_X1_buy {l : Launch} {E : zE} {K : zK} {s : State} (F : zF) (G : zGf) {gi : Nat} (hg : gi < 4) (hz : gz G.1) {c j : Nat} (hc6 : c < 6) (hj : j < nS G.1) (C0 : XR l E K cX1_buy RX1 3 s 8 none (fun v F2 => v = none ∧ F2 = sG F gi (buyG G.1 c j, upd G.2.1 j 1, G.2.2))) : ∀ (n : Nat) (k : Nat), nC G.1 - k < n → k ≤ nC G.1 → keepN G.1 j k = none → Z K (XP E (sG F gi (buyB G.1 c j, upd G.2.1 j 1, G.2.2)) s) 131 [(0, .ref (xadr E.2.2.1 (3, gi, 0))), (2, .int (nI j)), (5, .int (buyA G.1 c j)), (6, .int (askS G.1 j - buyA G.1 c j)), (7, .int (nI k))] [] := by
  have C := C0.c
  intro n
  induction n with
  | zero => intro k hk hkl hkn; exact absurd hk (Nat.not_lt_zero _)
  | succ n ih =>
    intro k hk hkl hkn
    obtain ⟨⟨eS, lS⟩, ⟨eC, lC⟩⟩ := id hz
    have hj6 : j < 6 := Nat.lt_of_lt_of_le hj lS
    refine z_iload C 4 dX1_buy_131 rfl ?_
    refine z_aload_n C 0 dX1_buy_133 rfl ?_
    refine xg_3F (k := 1) C (by first | assumption | omega) (by decide) kf_X1_38 dX1_buy_134 ?_
    refine z_top (G.1.1 1) rfl ?_
    rw [eC]
    refine z_icmp_ge C 175 dX1_buy_137 (by decide) (fun h137 => ?_) (fun h137 => ?_)
    · skip
      refine z_vret C0 dX1_buy_175 ?_
      refine ⟨rfl, ?_⟩
      have e : keepN G.1 j (nC G.1) = none := by
        have : nC G.1 = k := by
          rcases Nat.lt_or_ge k (nC G.1) with q | q
          · exact absurd h137 (nI_ge q (by omega))
          · omega
        rw [this]; exact hkn
      simp only [buyG, e]
    · skip
      have hk2 : k < nC G.1 := by
        rcases Nat.lt_or_ge k (nC G.1) with q | q
        · exact q
        · exact absurd (nI_le q (by omega)) h137
      have hk6 : k < 6 := by omega
      refine z_aload_n C 0 dX1_buy_140 rfl ?_
      refine xg_3c C (by first | assumption | omega) kf_X1_19 dX1_buy_141 ?_
      refine z_iload C 4 dX1_buy_144 rfl ?_
      refine xa_5 C (by first | assumption | omega) k rfl (by first | assumption | omega) dX1_buy_146 ?_
      refine xg_7F (k := 5) C (by first | assumption | omega) (by first | assumption | omega) (by decide) kf_X1_80 dX1_buy_147 ?_
      refine z_top (G.1.2.2 k 5) (buyB_5 _ _ _ _) ?_
      refine z_iload_n C 1 dX1_buy_150 rfl ?_
      refine z_icmp_ne C 169 dX1_buy_151 (by decide) (fun h151 => ?_) (fun h151 => ?_)
      · skip
        refine z_iinc C (v := nI (k + 1)) 4 dX1_buy_169 rfl (nI_1 _) (by decide) ?_
        refine z_goto C 131 dX1_buy_172 (by decide) ?_
        refine z_pick [1, 2, 3, 4, 0] rfl ?_
        refine ih (k + 1) (by omega) (by omega) ?_
        simp only [keepN, hkn]
        rw [if_neg h151]
      · skip
        refine z_aload_n C 0 dX1_buy_154 rfl ?_
        refine xg_3c C (by first | assumption | omega) kf_X1_19 dX1_buy_155 ?_
        refine z_iload C 4 dX1_buy_158 rfl ?_
        refine xa_5 C (by first | assumption | omega) k rfl (by first | assumption | omega) dX1_buy_160 ?_
        refine z_iload C 2 dX1_buy_161 rfl ?_
        refine z_iload C 3 dX1_buy_163 rfl ?_
        refine z_callV2 C (c_X0_gain l E _ _ (by first | assumption | omega) (by first | assumption | omega) _ _) ⟨(by first | assumption | omega), (by first | assumption | omega)⟩ rfl rfl q_X1_99 ⟨by decide, by decide⟩ (Nat.le_of_ble_eq_true rfl) dX1_buy_165 (fun v F9 hp => ?_)
        obtain ⟨rfl, rfl⟩ := hp
        refine z_vret C0 dX1_buy_168 ?_
        refine ⟨rfl, ?_⟩
        have e : keepN G.1 j (nC G.1) = some k := keepN_some hkn h151 hk2
        simp only [buyG, e]
        rfl
set_option maxRecDepth 100000 in
set_option maxHeartbeats 4000000 in
theorem c_X1_buy (l : Launch) (E : zE) (F : zF) (G : zGf) {gi : Nat} (hg : gi < 4) (hz : gz G.1) {c j : Nat} (hc6 : c < 6) (hj : j < nS G.1) : XM l E yX1_buy cX1_buy 8 none 3 [.ref (xadr E.2.2.1 (3, gi, 0)), .ref (xadr E.2.2.1 (7, gi, c)), .int (nI j)] (sG F gi G) (fun v F2 => v = none ∧ F2 = sG F gi (buyG G.1 c j, upd G.2.1 j 1, G.2.2)) := by
  refine XM.mk kq_X1 (Nat.le_of_ble_eq_true rfl) (fun K s C0 => ?_)
  have C := C0.c
  obtain ⟨⟨eS, lS⟩, ⟨eC, lC⟩⟩ := id hz
  have hj6 : j < 6 := Nat.lt_of_lt_of_le hj lS
  refine z_iload_n C 2 dX1_buy_0 rfl ?_
  refine z_if_lt C 12 dX1_buy_1 (by decide) (fun h1 => ?_) (fun h1 => ?_)
  · exact absurd h1 (nI_pos (by omega))
  · skip
    refine z_iload_n C 2 dX1_buy_4 rfl ?_
    refine z_aload_n C 0 dX1_buy_5 rfl ?_
    refine xg_3F (k := 0) C (by first | assumption | omega) (by decide) kf_X1_35 dX1_buy_6 ?_
    refine z_icmp_lt C 13 dX1_buy_9 (by decide) (fun h9 => ?_) (fun h9 => ?_)
    · skip
      refine z_aload_n C 0 dX1_buy_13 rfl ?_
      refine xg_3s C (by first | assumption | omega) kf_X1_11 dX1_buy_14 ?_
      refine z_iload_n C 2 dX1_buy_17 rfl ?_
      refine xa_4 C (by first | assumption | omega) j rfl (by first | assumption | omega) dX1_buy_18 ?_
      refine z_astore_n (i := 3) C dX1_buy_19 rfl (by decide) ?_
      refine z_aload_n C 0 dX1_buy_20 rfl ?_
      refine z_callV0 C (cf_X4_asksNow l E _ _ (by first | assumption | omega) (by first | assumption | omega)) ⟨(by first | assumption | omega), (by first | assumption | omega)⟩ rfl rfl q_X1_72 ⟨by decide, by decide⟩ (Nat.le_of_ble_eq_true rfl) dX1_buy_21 (fun v F9 hp => ?_)
      obtain ⟨rfl, rfl⟩ := hp
      refine z_istore C dX1_buy_24 (by decide) ?_
      refine z_aload_n C 1 dX1_buy_26 rfl ?_
      refine z_callV0 C (cf_X4_takesStampsOnly l E _ _ (by first | assumption | omega) (by first | assumption | omega)) ⟨(by first | assumption | omega), (by first | assumption | omega)⟩ rfl rfl q_X1_83 ⟨by decide, by decide⟩ (Nat.le_of_ble_eq_true rfl) dX1_buy_27 (fun v F9 hp => ?_)
      obtain ⟨rfl, rfl⟩ := hp
      refine z_if_eq C 37 dX1_buy_30 (by decide) (fun h30 => ?_) (fun h30 => ?_)
      · skip
        have h30 := bI_0 h30
        refine z_aload_n C 3 dX1_buy_37 rfl ?_
        refine xg_7F (k := 1) C (by first | assumption | omega) (by first | assumption | omega) (by decide) kf_X1_66 dX1_buy_38 ?_
        refine z_iload C 0 dX1_buy_41 rfl ?_
        refine z_mmin C dX1_buy_43 q_X1_93 ⟨by decide, Nat.le_of_ble_eq_true rfl⟩ ?_
        refine z_top (buyA G.1 c j) (by first | (simp [buyA, askS, h30]; done) | (unfold buyA; rw [h30]; rfl)) ?_
        refine z_istore C dX1_buy_46 (by decide) ?_
        refine z_iload C 1 dX1_buy_48 rfl ?_
        refine z_iload C 0 dX1_buy_50 rfl ?_
        refine z_isub C dX1_buy_52 ?_
        refine z_istore C dX1_buy_53 (by decide) ?_
        refine z_aload_n C 5 dX1_buy_55 rfl ?_
        refine z_dup C dX1_buy_56 rfl ?_
        refine xg_7F (k := 1) C (by first | assumption | omega) (by first | assumption | omega) (by decide) kf_X1_66 dX1_buy_57 ?_
        refine z_iload C 1 dX1_buy_60 rfl ?_
        refine z_isub C dX1_buy_62 ?_
        refine xp_7F (k := 1) C (by first | assumption | omega) (by first | assumption | omega) (by decide) kf_X1_66 dX1_buy_63 ?_
        refine z_aload_n C 5 dX1_buy_66 rfl ?_
        refine z_dup C dX1_buy_67 rfl ?_
        refine xg_7F (k := 2) C (by first | assumption | omega) (by first | assumption | omega) (by decide) kf_X1_87 dX1_buy_68 ?_
        refine z_top (G.1.2.2 c 2) (by simp [fCh, fSh, fSc, gCh, gSh, gSc, va_up, upd]) ?_
        refine z_iload C 0 dX1_buy_71 rfl ?_
        refine z_isub C dX1_buy_73 ?_
        refine xp_7F (k := 2) C (by first | assumption | omega) (by first | assumption | omega) (by decide) kf_X1_87 dX1_buy_74 ?_
        refine z_aload_n C 5 dX1_buy_77 rfl ?_
        refine z_dup C dX1_buy_78 rfl ?_
        refine xg_7F (k := 4) C (by first | assumption | omega) (by first | assumption | omega) (by decide) kf_X1_106 dX1_buy_79 ?_
        refine z_top (G.1.2.2 c 4) (by simp [fCh, fSh, fSc, gCh, gSh, gSc, va_up, upd]) ?_
        refine z_iconst C (v := 1) dX1_buy_82 rfl ?_
        refine z_iadd C dX1_buy_83 ?_
        refine xp_7F (k := 4) C (by first | assumption | omega) (by first | assumption | omega) (by decide) kf_X1_106 dX1_buy_84 ?_
        refine z_aload_n C 3 dX1_buy_87 rfl ?_
        refine z_dup C dX1_buy_88 rfl ?_
        refine xg_6F (k := 3) C (by first | assumption | omega) (by first | assumption | omega) (by decide) kf_X1_109 dX1_buy_89 ?_
        refine z_iconst C (v := 1) dX1_buy_92 rfl ?_
        refine z_iadd C dX1_buy_93 ?_
        refine xp_6F (k := 3) C (by first | assumption | omega) (by first | assumption | omega) (by decide) kf_X1_109 dX1_buy_94 ?_
        refine z_aload_n C 3 dX1_buy_97 rfl ?_
        refine z_iconst C (v := 0) dX1_buy_98 rfl ?_
        refine xp_6F (k := 4) C (by first | assumption | omega) (by first | assumption | omega) (by decide) kf_X1_112 dX1_buy_99 ?_
        refine z_aload_n C 3 dX1_buy_102 rfl ?_
        refine z_iconst C (v := 1) dX1_buy_103 rfl ?_
        refine xp_6bF C (by first | assumption | omega) (by first | assumption | omega) ⟨rfl, rfl⟩ kf_X1_115 dX1_buy_104 ?_
        refine z_aload_n C 4 dX1_buy_107 rfl ?_
        refine z_dup C dX1_buy_108 rfl ?_
        refine xg_3F (k := 3) C (by first | assumption | omega) (by decide) kf_X1_44 dX1_buy_109 ?_
        refine z_iload C 2 dX1_buy_112 rfl ?_
        refine z_iadd C dX1_buy_114 ?_
        refine xp_3F (k := 3) C (by first | assumption | omega) (by decide) kf_X1_44 dX1_buy_115 ?_
        refine z_aload_n C 4 dX1_buy_118 rfl ?_
        refine z_dup C dX1_buy_119 rfl ?_
        refine xg_3F (k := 6) C (by first | assumption | omega) (by decide) kf_X1_47 dX1_buy_120 ?_
        refine z_iconst C (v := 1) dX1_buy_123 rfl ?_
        refine z_iadd C dX1_buy_124 ?_
        refine xp_3F (k := 6) C (by first | assumption | omega) (by decide) kf_X1_47 dX1_buy_125 ?_
        refine z_iconst C (v := 0) dX1_buy_128 rfl ?_
        refine z_istore C dX1_buy_129 (by decide) ?_
        refine z_pick [5, 7, 2, 1, 0] rfl ?_
        exact lp_X1_buy F G hg hz hc6 hj C0 (nC G.1 + 1) 0 (by omega) (by omega) rfl
      · skip
        have h30 := bI_1 h30
        refine z_iconst C (v := 0) dX1_buy_33 rfl ?_
        refine z_goto C 46 dX1_buy_34 (by decide) ?_
        refine z_top (buyA G.1 c j) (by first | (simp [buyA, askS, h30]; done) | (unfold buyA; rw [h30]; rfl)) ?_
        refine z_istore C dX1_buy_46 (by decide) ?_
        refine z_iload C 1 dX1_buy_48 rfl ?_
        refine z_iload C 0 dX1_buy_50 rfl ?_
        refine z_isub C dX1_buy_52 ?_
        refine z_istore C dX1_buy_53 (by decide) ?_
        refine z_aload_n C 5 dX1_buy_55 rfl ?_
        refine z_dup C dX1_buy_56 rfl ?_
        refine xg_7F (k := 1) C (by first | assumption | omega) (by first | assumption | omega) (by decide) kf_X1_66 dX1_buy_57 ?_
        refine z_iload C 1 dX1_buy_60 rfl ?_
        refine z_isub C dX1_buy_62 ?_
        refine xp_7F (k := 1) C (by first | assumption | omega) (by first | assumption | omega) (by decide) kf_X1_66 dX1_buy_63 ?_
        refine z_aload_n C 5 dX1_buy_66 rfl ?_
        refine z_dup C dX1_buy_67 rfl ?_
        refine xg_7F (k := 2) C (by first | assumption | omega) (by first | assumption | omega) (by decide) kf_X1_87 dX1_buy_68 ?_
        refine z_top (G.1.2.2 c 2) (by simp [fCh, fSh, fSc, gCh, gSh, gSc, va_up, upd]) ?_
        refine z_iload C 0 dX1_buy_71 rfl ?_
        refine z_isub C dX1_buy_73 ?_
        refine xp_7F (k := 2) C (by first | assumption | omega) (by first | assumption | omega) (by decide) kf_X1_87 dX1_buy_74 ?_
        refine z_aload_n C 5 dX1_buy_77 rfl ?_
        refine z_dup C dX1_buy_78 rfl ?_
        refine xg_7F (k := 4) C (by first | assumption | omega) (by first | assumption | omega) (by decide) kf_X1_106 dX1_buy_79 ?_
        refine z_top (G.1.2.2 c 4) (by simp [fCh, fSh, fSc, gCh, gSh, gSc, va_up, upd]) ?_
        refine z_iconst C (v := 1) dX1_buy_82 rfl ?_
        refine z_iadd C dX1_buy_83 ?_
        refine xp_7F (k := 4) C (by first | assumption | omega) (by first | assumption | omega) (by decide) kf_X1_106 dX1_buy_84 ?_
        refine z_aload_n C 3 dX1_buy_87 rfl ?_
        refine z_dup C dX1_buy_88 rfl ?_
        refine xg_6F (k := 3) C (by first | assumption | omega) (by first | assumption | omega) (by decide) kf_X1_109 dX1_buy_89 ?_
        refine z_iconst C (v := 1) dX1_buy_92 rfl ?_
        refine z_iadd C dX1_buy_93 ?_
        refine xp_6F (k := 3) C (by first | assumption | omega) (by first | assumption | omega) (by decide) kf_X1_109 dX1_buy_94 ?_
        refine z_aload_n C 3 dX1_buy_97 rfl ?_
        refine z_iconst C (v := 0) dX1_buy_98 rfl ?_
        refine xp_6F (k := 4) C (by first | assumption | omega) (by first | assumption | omega) (by decide) kf_X1_112 dX1_buy_99 ?_
        refine z_aload_n C 3 dX1_buy_102 rfl ?_
        refine z_iconst C (v := 1) dX1_buy_103 rfl ?_
        refine xp_6bF C (by first | assumption | omega) (by first | assumption | omega) ⟨rfl, rfl⟩ kf_X1_115 dX1_buy_104 ?_
        refine z_aload_n C 4 dX1_buy_107 rfl ?_
        refine z_dup C dX1_buy_108 rfl ?_
        refine xg_3F (k := 3) C (by first | assumption | omega) (by decide) kf_X1_44 dX1_buy_109 ?_
        refine z_iload C 2 dX1_buy_112 rfl ?_
        refine z_iadd C dX1_buy_114 ?_
        refine xp_3F (k := 3) C (by first | assumption | omega) (by decide) kf_X1_44 dX1_buy_115 ?_
        refine z_aload_n C 4 dX1_buy_118 rfl ?_
        refine z_dup C dX1_buy_119 rfl ?_
        refine xg_3F (k := 6) C (by first | assumption | omega) (by decide) kf_X1_47 dX1_buy_120 ?_
        refine z_iconst C (v := 1) dX1_buy_123 rfl ?_
        refine z_iadd C dX1_buy_124 ?_
        refine xp_3F (k := 6) C (by first | assumption | omega) (by decide) kf_X1_47 dX1_buy_125 ?_
        refine z_iconst C (v := 0) dX1_buy_128 rfl ?_
        refine z_istore C dX1_buy_129 (by decide) ?_
        refine z_pick [5, 7, 2, 1, 0] rfl ?_
        exact lp_X1_buy F G hg hz hc6 hj C0 (nC G.1 + 1) 0 (by omega) (by omega) rfl
    · exact absurd (by rw [eS]; exact nI_lt hj (by omega)) h9
