/-! the class: deeds by rules -/
set_option maxRecDepth 100000 in
set_option maxHeartbeats 4000000 in
theorem c_X1_perform (l : Launch) (E : zE) (F : zF) (G : zGf) {gi : Nat} (hg : gi < 4) (hz : gz G.1) {c : Nat} (hc : c < nC G.1) {d : Int32} (hd : dd G.1 d) : XM l E yX1_perform cX1_perform 6 none 4 [.ref (xadr E.2.2.1 (3, gi, 0)), .int (nI c), .int (d)] (sG F gi G) (fun v F2 => v = none ∧ F2 = sG F gi (perf G c d)) := by
  refine XM.mk kq_X1 (Nat.le_of_ble_eq_true rfl) (fun K s C0 => ?_)
  have C := C0.c
  obtain ⟨⟨eS, lS⟩, ⟨eC, lC⟩⟩ := id hz
  have hc6 : c < 6 := Nat.lt_of_lt_of_le hc lC
  refine z_aload_n C 0 dX1_perform_0 rfl ?_
  refine xg_3c C (by first | assumption | omega) kf_X1_19 dX1_perform_1 ?_
  refine z_iload_n C 1 dX1_perform_4 rfl ?_
  refine xa_5 C (by first | assumption | omega) c rfl (by first | assumption | omega) dX1_perform_5 ?_
  refine z_astore_n (i := 3) C dX1_perform_6 rfl (by decide) ?_
  refine z_iload_n C 3 dX1_perform_7 rfl ?_
  refine z_case (0) (fun h8_0 => ?_) (fun h8_0 => ?_)
  · refine z_tabIn C (0) (32) 40 h8_0 dX1_perform_8 (by decide) (by decide) ?_
    refine z_goto C 140 dX1_perform_40 (by decide) ?_
    refine z_vret C0 dX1_perform_140 ?_
    refine ⟨rfl, ?_⟩
    simp only [perf, makes, busyD]
    rw [if_pos h8_0, if_pos h8_0]
  refine z_case (1) (fun h8_1 => ?_) (fun h8_1 => ?_)
  · refine z_tabIn C (1) (35) 43 h8_1 dX1_perform_8 (by decide) (by decide) ?_
    refine z_aload_n C 0 dX1_perform_43 rfl ?_
    refine xg_7F (k := 0) C (by first | assumption | omega) (by first | assumption | omega) (by decide) kf_X1_90 dX1_perform_44 ?_
    refine z_aload_n C 1 dX1_perform_47 rfl ?_
    refine xg_3F (k := 5) C (by first | assumption | omega) (by decide) kf_X1_27 dX1_perform_48 ?_
    refine z_mmin C dX1_perform_51 q_X1_93 ⟨by decide, Nat.le_of_ble_eq_true rfl⟩ ?_
    refine z_istore C dX1_perform_54 (by decide) ?_
    refine z_aload_n C 2 dX1_perform_56 rfl ?_
    refine z_dup C dX1_perform_57 rfl ?_
    refine xg_3F (k := 5) C (by first | assumption | omega) (by decide) kf_X1_27 dX1_perform_58 ?_
    refine z_iload C 0 dX1_perform_61 rfl ?_
    refine z_isub C dX1_perform_63 ?_
    refine xp_3F (k := 5) C (by first | assumption | omega) (by decide) kf_X1_27 dX1_perform_64 ?_
    refine z_aload_n C 1 dX1_perform_67 rfl ?_
    refine z_iload C 0 dX1_perform_68 rfl ?_
    refine z_iconst C (v := 0) dX1_perform_70 rfl ?_
    refine z_callV2 C (c_X0_gain l E _ _ (by first | assumption | omega) (by first | assumption | omega) _ _) ⟨(by first | assumption | omega), (by first | assumption | omega)⟩ rfl rfl q_X1_99 ⟨by decide, by decide⟩ (Nat.le_of_ble_eq_true rfl) dX1_perform_71 (fun v F9 hp => ?_)
    obtain ⟨rfl, rfl⟩ := hp
    refine z_goto C 140 dX1_perform_74 (by decide) ?_
    refine z_vret C0 dX1_perform_140 ?_
    refine ⟨rfl, ?_⟩
    simp only [perf, makes, busyD]
    rw [if_neg h8_0, if_neg h8_0, if_pos h8_1, if_pos h8_1]
    rfl
  refine z_case (2) (fun h8_2 => ?_) (fun h8_2 => ?_)
  · refine z_tabIn C (2) (69) 77 h8_2 dX1_perform_8 (by decide) (by decide) ?_
    refine z_aload_n C 1 dX1_perform_77 rfl ?_
    refine xg_3F (k := 4) C (by first | assumption | omega) (by decide) kf_X1_23 dX1_perform_78 ?_
    refine z_aload_n C 0 dX1_perform_81 rfl ?_
    refine xg_7F (k := 1) C (by first | assumption | omega) (by first | assumption | omega) (by decide) kf_X1_66 dX1_perform_82 ?_
    refine z_mmin C dX1_perform_85 q_X1_93 ⟨by decide, Nat.le_of_ble_eq_true rfl⟩ ?_
    refine z_istore C dX1_perform_88 (by decide) ?_
    refine z_aload_n C 1 dX1_perform_90 rfl ?_
    refine z_dup C dX1_perform_91 rfl ?_
    refine xg_7F (k := 1) C (by first | assumption | omega) (by first | assumption | omega) (by decide) kf_X1_66 dX1_perform_92 ?_
    refine z_iload C 0 dX1_perform_95 rfl ?_
    refine z_isub C dX1_perform_97 ?_
    refine xp_7F (k := 1) C (by first | assumption | omega) (by first | assumption | omega) (by decide) kf_X1_66 dX1_perform_98 ?_
    refine z_aload_n C 1 dX1_perform_101 rfl ?_
    refine z_iconst C (v := 0) dX1_perform_102 rfl ?_
    refine z_iload C 0 dX1_perform_103 rfl ?_
    refine z_callV2 C (c_X0_gain l E _ _ (by first | assumption | omega) (by first | assumption | omega) _ _) ⟨(by first | assumption | omega), (by first | assumption | omega)⟩ rfl rfl q_X1_99 ⟨by decide, by decide⟩ (Nat.le_of_ble_eq_true rfl) dX1_perform_105 (fun v F9 hp => ?_)
    obtain ⟨rfl, rfl⟩ := hp
    refine z_goto C 140 dX1_perform_108 (by decide) ?_
    refine z_vret C0 dX1_perform_140 ?_
    refine ⟨rfl, ?_⟩
    simp only [perf, makes, busyD]
    rw [if_neg h8_0, if_neg h8_0, if_neg h8_1, if_neg h8_1, if_pos h8_2, if_pos h8_2]
    rfl
  refine z_case (3) (fun h8_3 => ?_) (fun h8_3 => ?_)
  · refine z_tabIn C (3) (103) 111 h8_3 dX1_perform_8 (by decide) (by decide) ?_
    refine z_aload_n C 0 dX1_perform_111 rfl ?_
    refine z_dup C dX1_perform_112 rfl ?_
    refine xg_7F (k := 3) C (by first | assumption | omega) (by first | assumption | omega) (by decide) kf_X1_69 dX1_perform_113 ?_
    refine z_iconst C (v := 1) dX1_perform_116 rfl ?_
    refine z_isub C dX1_perform_117 ?_
    refine xp_7F (k := 3) C (by first | assumption | omega) (by first | assumption | omega) (by decide) kf_X1_69 dX1_perform_118 ?_
    refine z_aload_n C 0 dX1_perform_121 rfl ?_
    refine z_bipush C (v := 10) dX1_perform_122 rfl ?_
    refine z_iconst C (v := 0) dX1_perform_124 rfl ?_
    refine z_callV2 C (c_X0_gain l E _ _ (by first | assumption | omega) (by first | assumption | omega) _ _) ⟨(by first | assumption | omega), (by first | assumption | omega)⟩ rfl rfl q_X1_99 ⟨by decide, by decide⟩ (Nat.le_of_ble_eq_true rfl) dX1_perform_125 (fun v F9 hp => ?_)
    obtain ⟨rfl, rfl⟩ := hp
    refine z_goto C 140 dX1_perform_128 (by decide) ?_
    refine z_vret C0 dX1_perform_140 ?_
    refine ⟨rfl, ?_⟩
    simp only [perf, makes, busyD]
    rw [if_neg h8_0, if_neg h8_0, if_neg h8_1, if_neg h8_1, if_neg h8_2, if_neg h8_2, if_pos h8_3, if_pos h8_3]
    rfl
  refine z_tabOut C 131 (by have q0 := lv_neT (a := (0)) h8_0 rfl; have q1 := lv_neT (a := (1)) h8_1 rfl; have q2 := lv_neT (a := (2)) h8_2 rfl; have q3 := lv_neT (a := (3)) h8_3 rfl; omega) dX1_perform_8 (by decide) ?_
  obtain ⟨j, hj, ej⟩ := hd.resolve_left h8_0 |>.resolve_left h8_1 |>.resolve_left h8_2 |>.resolve_left h8_3
  have hj6 : j < 6 := Nat.lt_of_lt_of_le hj lS
  have es : d - 10 = nI j := by rw [ej]; exact i_10s hj6
  refine z_aload_n C 1 dX1_perform_131 rfl ?_
  refine z_aload_n C 0 dX1_perform_132 rfl ?_
  refine z_iload_n C 3 dX1_perform_133 rfl ?_
  refine z_bipush C (v := 10) dX1_perform_134 rfl ?_
  refine z_isub C dX1_perform_136 ?_
  refine z_top (nI j) (es) ?_
  refine z_callV2 C (c_X1_buy l E _ _ (by first | assumption | omega) (by assumption) (by first | assumption | omega) (by first | assumption | omega)) ⟨(by first | assumption | omega), rfl⟩ rfl rfl q_X1_102 ⟨by decide, by decide⟩ (Nat.le_of_ble_eq_true rfl) dX1_perform_137 (fun v F9 hp => ?_)
  obtain ⟨rfl, rfl⟩ := hp
  refine z_vret C0 dX1_perform_140 ?_
  refine ⟨rfl, ?_⟩
  simp only [perf, makes, busyD]
  rw [if_neg h8_0, if_neg h8_0, if_neg h8_1, if_neg h8_1, if_neg h8_2, if_neg h8_2, if_neg h8_3, if_neg h8_3, es, nI_cl6 (show j < 1000 by omega)]
theorem cg_X1_perform (l : Launch) (E : zE) (F : zF) {gi : Nat} (hg : gi < 4) (hz : gz (F.1 gi).1) {c : Nat} (hc : c < nC (F.1 gi).1) {d : Int32} (hd : dd (F.1 gi).1 d) : XM l E yX1_perform cX1_perform 6 none 4 [.ref (xadr E.2.2.1 (3, gi, 0)), .int (nI c), .int d] F (fun v F2 => v = none ∧ F2 = sG F gi (perf (F.1 gi) c d)) := by
  have h := c_X1_perform l E F (F.1 gi) hg hz hc hd
  rw [sG_id] at h
  exact h
set_option maxRecDepth 100000 in
set_option maxHeartbeats 4000000 in
theorem lp_X1_cheapestFor {l : Launch} {E : zE} {K : zK} {s : State} (F : zF) (G : zGf) {gi : Nat} (hg : gi < 4) (hz : gz G.1) {c : Nat} (hc6 : c < 6) {lim : Int32} (hl : lim < 2147483647) (C0 : XR l E K cX1_cheapestFor RX1 3 s 7 (some .int) (fun v F2 => v = some (.int (oI (cheap G.1 c lim))) ∧ F2 = sG F gi G)) : ∀ (n2 : Nat) (k : Nat), nS G.1 - k < n2 → k ≤ nS G.1 → Z K (XP E (sG F gi G) s) 10 [(0, .ref (xadr E.2.2.1 (3, gi, 0))), (1, .ref (xadr E.2.2.1 (7, gi, c))), (3, .int (oI (cheapN G.1 c lim k))), (4, .int (leastO G.1 lim (cheapN G.1 c lim k))), (5, .int (nI k))] [] := by
  have C := C0.c
  intro n2
  induction n2 with
  | zero => intro k hk hkl; exact absurd hk (Nat.not_lt_zero _)
  | succ n2 ih =>
    intro k hk hkl
    obtain ⟨⟨eS, lS⟩, ⟨eC, lC⟩⟩ := id hz
    refine z_iload C 4 dX1_cheapestFor_10 rfl ?_
    refine z_aload_n C 0 dX1_cheapestFor_12 rfl ?_
    refine xg_3F (k := 0) C (by first | assumption | omega) (by decide) kf_X1_35 dX1_cheapestFor_13 ?_
    rw [eS]
    refine z_icmp_ge C 63 dX1_cheapestFor_16 (by decide) (fun h16 => ?_) (fun h16 => ?_)
    · skip
      refine z_iload_n C 2 dX1_cheapestFor_63 rfl ?_
      refine z_iret C0 dX1_cheapestFor_64 ?_
      have e : k = nS G.1 := by
        rcases Nat.lt_or_ge k (nS G.1) with q | q
        · exact absurd h16 (nI_ge q (by omega))
        · omega
      rw [e]
      exact ⟨rfl, rfl⟩
    · skip
      have hk2 : k < nS G.1 := by
        rcases Nat.lt_or_ge k (nS G.1) with q | q
        · exact q
        · exact absurd (nI_le q (by omega)) h16
      have hk6 : k < 6 := by omega
      refine z_aload_n C 0 dX1_cheapestFor_19 rfl ?_
      refine xg_3s C (by first | assumption | omega) kf_X1_11 dX1_cheapestFor_20 ?_
      refine z_iload C 4 dX1_cheapestFor_23 rfl ?_
      refine xa_4 C (by first | assumption | omega) k rfl (by first | assumption | omega) dX1_cheapestFor_25 ?_
      refine z_callV0 C (cf_X4_asksNow l E _ _ (by first | assumption | omega) (by first | assumption | omega)) ⟨(by first | assumption | omega), (by first | assumption | omega)⟩ rfl rfl q_X1_72 ⟨by decide, by decide⟩ (Nat.le_of_ble_eq_true rfl) dX1_cheapestFor_26 (fun v F9 hp => ?_)
      obtain ⟨rfl, rfl⟩ := hp
      refine z_istore C dX1_cheapestFor_29 (by decide) ?_
      refine z_iload C 0 dX1_cheapestFor_31 rfl ?_
      refine z_iload C 4 dX1_cheapestFor_33 rfl ?_
      refine z_icmp_ge C 57 dX1_cheapestFor_35 (by decide) (fun h35 => ?_) (fun h35 => ?_)
      · skip
        refine z_iinc C (v := nI (k + 1)) 5 dX1_cheapestFor_57 rfl (nI_1 _) (by decide) ?_
        refine z_goto C 10 dX1_cheapestFor_60 (by decide) ?_
        refine z_pick [2, 3, 4, 5, 0] rfl ?_
        have q := ih (k + 1) (by omega) (by omega)
        rw [cheap_stay hl (Or.inl (Int32.not_lt.mpr h35))] at q
        exact q
      · skip
        refine z_aload_n C 1 dX1_cheapestFor_38 rfl ?_
        refine z_aload_n C 2 dX1_cheapestFor_39 rfl ?_
        refine z_iload C 5 dX1_cheapestFor_40 rfl ?_
        refine z_iload C 0 dX1_cheapestFor_42 rfl ?_
        refine z_callV3 C (c_X1_canBuy l E _ _ (by first | assumption | omega) (by first | assumption | omega) (by first | assumption | omega) _) ⟨(by first | assumption | omega), rfl⟩ rfl rfl q_X1_76 ⟨by decide, by decide⟩ (Nat.le_of_ble_eq_true rfl) dX1_cheapestFor_44 (fun v F9 hp => ?_)
        obtain ⟨rfl, rfl⟩ := hp
        refine z_if_eq C 57 dX1_cheapestFor_47 (by decide) (fun h47 => ?_) (fun h47 => ?_)
        · skip
          have h47 := bI_0 h47
          refine z_iinc C (v := nI (k + 1)) 5 dX1_cheapestFor_57 rfl (nI_1 _) (by decide) ?_
          refine z_goto C 10 dX1_cheapestFor_60 (by decide) ?_
          refine z_pick [2, 3, 4, 5, 0] rfl ?_
          have q := ih (k + 1) (by omega) (by omega)
          rw [cheap_stay hl (Or.inr h47)] at q
          exact q
        · skip
          have h47 := bI_1 h47
          refine z_iload C 5 dX1_cheapestFor_50 rfl ?_
          refine z_istore_n (i := 3) C dX1_cheapestFor_52 rfl (by decide) ?_
          refine z_iload C 1 dX1_cheapestFor_53 rfl ?_
          refine z_istore C dX1_cheapestFor_55 (by decide) ?_
          refine z_iinc C (v := nI (k + 1)) 5 dX1_cheapestFor_57 rfl (nI_1 _) (by decide) ?_
          refine z_goto C 10 dX1_cheapestFor_60 (by decide) ?_
          refine z_pick [4, 5, 2, 1, 0] rfl ?_
          have q := ih (k + 1) (by omega) (by omega)
          rw [cheap_take hl (Int32.not_le.mp h35) h47] at q
          exact q
set_option maxRecDepth 100000 in
set_option maxHeartbeats 4000000 in
theorem c_X1_cheapestFor (l : Launch) (E : zE) (F : zF) (G : zGf) {gi : Nat} (hg : gi < 4) (hz : gz G.1) {c : Nat} (hc6 : c < 6) {lim : Int32} (hl : lim < 2147483647) : XM l E yX1_cheapestFor cX1_cheapestFor 7 (some .int) 3 [.ref (xadr E.2.2.1 (3, gi, 0)), .ref (xadr E.2.2.1 (7, gi, c)), .int (lim)] (sG F gi G) (fun v F2 => v = some (.int (oI (cheap G.1 c lim))) ∧ F2 = sG F gi G) := by
  refine XM.mk kq_X1 (Nat.le_of_ble_eq_true rfl) (fun K s C0 => ?_)
  have C := C0.c
  obtain ⟨⟨eS, lS⟩, ⟨eC, lC⟩⟩ := id hz
  refine z_iconst C (v := (-1)) dX1_cheapestFor_0 rfl ?_
  refine z_istore_n (i := 3) C dX1_cheapestFor_1 rfl (by decide) ?_
  refine z_iload_n C 3 dX1_cheapestFor_2 rfl ?_
  refine z_iconst C (v := 1) dX1_cheapestFor_3 rfl ?_
  refine z_iadd C dX1_cheapestFor_4 ?_
  refine z_istore C dX1_cheapestFor_5 (by decide) ?_
  refine z_iconst C (v := 0) dX1_cheapestFor_7 rfl ?_
  refine z_istore C dX1_cheapestFor_8 (by decide) ?_
  refine z_pick [3, 4, 2, 1, 0] rfl ?_
  exact lp_X1_cheapestFor F G hg hz hc6 hl C0 (nS G.1 + 1) 0 (by omega) (by omega)
set_option maxRecDepth 100000 in
set_option maxHeartbeats 4000000 in
theorem jn_X1_deedBy_87 {l : Launch} {E : zE} {K : zK} {s : State} (F : zF) (G : zGf) {gi : Nat} (hg : gi < 4) (hz : gz G.1) {c : Nat} (hc : c < nC G.1) {rule : Int32} (hn : 10 * G.1.2.2 c 0 < 2147483647) (C0 : XR l E K cX1_deedBy RX1 4 s 7 (some .int) (fun v F2 => v = some (.int (deedBy G.1 rule c)) ∧ F2 = sG F gi G)) : ¬ (rule = 1 ∧ G.1.2.2 c 1 < 50) → ¬ (rule = 2 ∧ G.1.2.2 c 2 < G.1.2.2 c 1) → Z K (XP E (sG F gi G) s) 87 [(0, .ref (xadr E.2.2.1 (3, gi, 0))), (1, .int (rule)), (2, .int (nI c)), (3, .ref (xadr E.2.2.1 (7, gi, c))), (4, .int (por G.1)), (5, .int (limR G.1 rule c))] [] := by
  have C := C0.c
  intro e1 e2
  obtain ⟨⟨eS, lS⟩, ⟨eC, lC⟩⟩ := id hz
  have hc6 : c < 6 := Nat.lt_of_lt_of_le hc lC
  refine z_aload_n C 0 dX1_deedBy_87 rfl ?_
  refine z_aload_n C 3 dX1_deedBy_88 rfl ?_
  refine z_iload C 5 dX1_deedBy_89 rfl ?_
  refine z_callV2 C (c_X1_cheapestFor l E _ _ (by first | assumption | omega) (by assumption) (by first | assumption | omega) (limR_lt hn)) ⟨(by first | assumption | omega), rfl⟩ rfl rfl q_X1_119 ⟨by decide, by decide⟩ (Nat.le_of_ble_eq_true rfl) dX1_deedBy_91 (fun v F9 hp => ?_)
  obtain ⟨rfl, rfl⟩ := hp
  refine z_istore C dX1_deedBy_94 (by decide) ?_
  refine z_iload C 0 dX1_deedBy_96 rfl ?_
  refine z_iconst C (v := (-1)) dX1_deedBy_98 rfl ?_
  refine z_icmp_ne C 107 dX1_deedBy_99 (by decide) (fun h99 => ?_) (fun h99 => ?_)
  · skip
    refine z_bipush C (v := 10) dX1_deedBy_107 rfl ?_
    refine z_iload C 0 dX1_deedBy_109 rfl ?_
    refine z_iadd C dX1_deedBy_111 ?_
    refine z_iret C0 dX1_deedBy_112 ?_
    refine ⟨?_, rfl⟩
    simp only [deedBy]
    rw [if_neg e1, if_neg e2]
    simp only [greedD]
    obtain ⟨q, hq⟩ := oI_ne h99
    rw [hq]
    show some (Value.int (10 + nI q)) = _
    rw [show (10 : Int32) = nI 10 from rfl, nI_add]
  · skip
    refine z_iload C 5 dX1_deedBy_102 rfl ?_
    refine z_goto C 112 dX1_deedBy_104 (by decide) ?_
    refine z_iret C0 dX1_deedBy_112 ?_
    refine ⟨?_, rfl⟩
    simp only [deedBy]
    rw [if_neg e1, if_neg e2]
    simp only [greedD]
    cases hq : cheap G.1 c (limR G.1 rule c) with
    | none => rfl
    | some q =>
      rw [hq] at h99
      exact absurd (nI_pos (n := q) (by have := (cheapN_le hq).2; omega)) (by rw [show nI q = -1 from h99]; decide)
set_option maxRecDepth 100000 in
set_option maxHeartbeats 4000000 in
theorem jn_X1_deedBy_67 {l : Launch} {E : zE} {K : zK} {s : State} (F : zF) (G : zGf) {gi : Nat} (hg : gi < 4) (hz : gz G.1) {c : Nat} (hc : c < nC G.1) {rule : Int32} (hn : 10 * G.1.2.2 c 0 < 2147483647) (C0 : XR l E K cX1_deedBy RX1 4 s 7 (some .int) (fun v F2 => v = some (.int (deedBy G.1 rule c)) ∧ F2 = sG F gi G)) : ¬ (rule = 1 ∧ G.1.2.2 c 1 < 50) → ¬ (rule = 2 ∧ G.1.2.2 c 2 < G.1.2.2 c 1) → Z K (XP E (sG F gi G) s) 67 [(0, .ref (xadr E.2.2.1 (3, gi, 0))), (1, .int (rule)), (2, .int (nI c)), (3, .ref (xadr E.2.2.1 (7, gi, c))), (4, .int (por G.1))] [] := by
  have C := C0.c
  intro e1 e2
  obtain ⟨⟨eS, lS⟩, ⟨eC, lC⟩⟩ := id hz
  have hc6 : c < 6 := Nat.lt_of_lt_of_le hc lC
  refine z_iload_n C 1 dX1_deedBy_67 rfl ?_
  refine z_iconst C (v := 3) dX1_deedBy_68 rfl ?_
  refine z_icmp_ne C 82 dX1_deedBy_69 (by decide) (fun h69 => ?_) (fun h69 => ?_)
  · skip
    refine z_sipush C (v := 9999) dX1_deedBy_82 rfl ?_
    refine z_top (limR G.1 rule c) (by unfold limR; rw [if_neg h69]; done) ?_
    refine z_istore C dX1_deedBy_85 (by decide) ?_
    refine z_pick [1, 2, 3, 4, 5, 0] rfl ?_
    exact jn_X1_deedBy_87 F G hg hz hc hn C0 e1 e2
  · skip
    refine z_bipush C (v := 10) dX1_deedBy_72 rfl ?_
    refine z_aload_n C 3 dX1_deedBy_74 rfl ?_
    refine xg_7F (k := 0) C (by first | assumption | omega) (by first | assumption | omega) (by decide) kf_X1_90 dX1_deedBy_75 ?_
    refine z_imul C dX1_deedBy_78 ?_
    refine z_goto C 85 dX1_deedBy_79 (by decide) ?_
    refine z_top (limR G.1 rule c) (by unfold limR; rw [if_pos h69]; done) ?_
    refine z_istore C dX1_deedBy_85 (by decide) ?_
    refine z_pick [1, 2, 3, 4, 5, 0] rfl ?_
    exact jn_X1_deedBy_87 F G hg hz hc hn C0 e1 e2
set_option maxRecDepth 100000 in
set_option maxHeartbeats 4000000 in
theorem jn_X1_deedBy_38 {l : Launch} {E : zE} {K : zK} {s : State} (F : zF) (G : zGf) {gi : Nat} (hg : gi < 4) (hz : gz G.1) {c : Nat} (hc : c < nC G.1) {rule : Int32} (hn : 10 * G.1.2.2 c 0 < 2147483647) (C0 : XR l E K cX1_deedBy RX1 4 s 7 (some .int) (fun v F2 => v = some (.int (deedBy G.1 rule c)) ∧ F2 = sG F gi G)) : ¬ (rule = 1 ∧ G.1.2.2 c 1 < 50) → Z K (XP E (sG F gi G) s) 38 [(0, .ref (xadr E.2.2.1 (3, gi, 0))), (1, .int (rule)), (2, .int (nI c)), (3, .ref (xadr E.2.2.1 (7, gi, c))), (4, .int (por G.1))] [] := by
  have C := C0.c
  intro e1
  obtain ⟨⟨eS, lS⟩, ⟨eC, lC⟩⟩ := id hz
  have hc6 : c < 6 := Nat.lt_of_lt_of_le hc lC
  refine z_iload_n C 1 dX1_deedBy_38 rfl ?_
  refine z_iconst C (v := 2) dX1_deedBy_39 rfl ?_
  refine z_icmp_ne C 67 dX1_deedBy_40 (by decide) (fun h40 => ?_) (fun h40 => ?_)
  · skip
    refine z_pick [0, 1, 2, 3, 4] rfl ?_
    have e2 : ¬ (rule = 2 ∧ G.1.2.2 c 2 < G.1.2.2 c 1) := fun q => h40 q.1
    exact jn_X1_deedBy_67 F G hg hz hc hn C0 e1 e2
  · skip
    refine z_aload_n C 3 dX1_deedBy_43 rfl ?_
    refine xg_7F (k := 1) C (by first | assumption | omega) (by first | assumption | omega) (by decide) kf_X1_66 dX1_deedBy_44 ?_
    refine z_aload_n C 3 dX1_deedBy_47 rfl ?_
    refine xg_7F (k := 2) C (by first | assumption | omega) (by first | assumption | omega) (by decide) kf_X1_87 dX1_deedBy_48 ?_
    refine z_icmp_le C 67 dX1_deedBy_51 (by decide) (fun h51 => ?_) (fun h51 => ?_)
    · skip
      refine z_pick [0, 1, 2, 3, 4] rfl ?_
      have e2 : ¬ (rule = 2 ∧ G.1.2.2 c 2 < G.1.2.2 c 1) := fun q => absurd q.2 (Int32.not_lt.mpr h51)
      exact jn_X1_deedBy_67 F G hg hz hc hn C0 e1 e2
    · skip
      refine z_aload_n C 0 dX1_deedBy_54 rfl ?_
      refine xg_3F (k := 4) C (by first | assumption | omega) (by decide) kf_X1_23 dX1_deedBy_55 ?_
      refine z_if_le C 65 dX1_deedBy_58 (by decide) (fun h58 => ?_) (fun h58 => ?_)
      · skip
        refine z_iconst C (v := 0) dX1_deedBy_65 rfl ?_
        refine z_iret C0 dX1_deedBy_66 ?_
        refine ⟨?_, rfl⟩
        have e2 : rule = 2 ∧ G.1.2.2 c 2 < G.1.2.2 c 1 := ⟨h40, Int32.not_le.mp h51⟩
        simp only [deedBy]
        rw [if_neg e1, if_pos e2, if_neg (Int32.not_lt.mpr h58)]
      · skip
        refine z_iconst C (v := 2) dX1_deedBy_61 rfl ?_
        refine z_goto C 66 dX1_deedBy_62 (by decide) ?_
        refine z_iret C0 dX1_deedBy_66 ?_
        refine ⟨?_, rfl⟩
        have e2 : rule = 2 ∧ G.1.2.2 c 2 < G.1.2.2 c 1 := ⟨h40, Int32.not_le.mp h51⟩
        simp only [deedBy]
        rw [if_neg e1, if_pos e2, if_pos (Int32.not_le.mp h58)]
set_option maxRecDepth 100000 in
set_option maxHeartbeats 4000000 in
theorem jn_X1_deedBy_21 {l : Launch} {E : zE} {K : zK} {s : State} (F : zF) (G : zGf) {gi : Nat} (hg : gi < 4) (hz : gz G.1) {c : Nat} (hc : c < nC G.1) {rule : Int32} (hn : 10 * G.1.2.2 c 0 < 2147483647) (C0 : XR l E K cX1_deedBy RX1 4 s 7 (some .int) (fun v F2 => v = some (.int (deedBy G.1 rule c)) ∧ F2 = sG F gi G)) : Z K (XP E (sG F gi G) s) 21 [(0, .ref (xadr E.2.2.1 (3, gi, 0))), (1, .int (rule)), (2, .int (nI c)), (3, .ref (xadr E.2.2.1 (7, gi, c))), (4, .int (por G.1))] [] := by
  have C := C0.c
  obtain ⟨⟨eS, lS⟩, ⟨eC, lC⟩⟩ := id hz
  have hc6 : c < 6 := Nat.lt_of_lt_of_le hc lC
  refine z_iload_n C 1 dX1_deedBy_21 rfl ?_
  refine z_iconst C (v := 1) dX1_deedBy_22 rfl ?_
  refine z_icmp_ne C 38 dX1_deedBy_23 (by decide) (fun h23 => ?_) (fun h23 => ?_)
  · skip
    refine z_pick [0, 1, 2, 3, 4] rfl ?_
    have e1 : ¬ (rule = 1 ∧ G.1.2.2 c 1 < 50) := fun q => h23 q.1
    exact jn_X1_deedBy_38 F G hg hz hc hn C0 e1
  · skip
    refine z_aload_n C 3 dX1_deedBy_26 rfl ?_
    refine xg_7F (k := 1) C (by first | assumption | omega) (by first | assumption | omega) (by decide) kf_X1_66 dX1_deedBy_27 ?_
    refine z_bipush C (v := 50) dX1_deedBy_30 rfl ?_
    refine z_icmp_ge C 38 dX1_deedBy_32 (by decide) (fun h32 => ?_) (fun h32 => ?_)
    · skip
      refine z_pick [0, 1, 2, 3, 4] rfl ?_
      have e1 : ¬ (rule = 1 ∧ G.1.2.2 c 1 < 50) := fun q => absurd q.2 (Int32.not_lt.mpr h32)
      exact jn_X1_deedBy_38 F G hg hz hc hn C0 e1
    · skip
      refine z_iload C 4 dX1_deedBy_35 rfl ?_
      refine z_iret C0 dX1_deedBy_37 ?_
      refine ⟨?_, rfl⟩
      have e : rule = 1 ∧ G.1.2.2 c 1 < 50 := ⟨h23, Int32.not_le.mp h32⟩
      simp only [deedBy]
      rw [if_pos e]
set_option maxRecDepth 100000 in
set_option maxHeartbeats 4000000 in
theorem c_X1_deedBy (l : Launch) (E : zE) (F : zF) (G : zGf) {gi : Nat} (hg : gi < 4) (hz : gz G.1) {c : Nat} (hc : c < nC G.1) {rule : Int32} (hn : 10 * G.1.2.2 c 0 < 2147483647) : XM l E yX1_deedBy cX1_deedBy 7 (some .int) 4 [.ref (xadr E.2.2.1 (3, gi, 0)), .int (rule), .int (nI c)] (sG F gi G) (fun v F2 => v = some (.int (deedBy G.1 rule c)) ∧ F2 = sG F gi G) := by
  refine XM.mk kq_X1 (Nat.le_of_ble_eq_true rfl) (fun K s C0 => ?_)
  have C := C0.c
  obtain ⟨⟨eS, lS⟩, ⟨eC, lC⟩⟩ := id hz
  have hc6 : c < 6 := Nat.lt_of_lt_of_le hc lC
  refine z_aload_n C 0 dX1_deedBy_0 rfl ?_
  refine xg_3c C (by first | assumption | omega) kf_X1_19 dX1_deedBy_1 ?_
  refine z_iload_n C 2 dX1_deedBy_4 rfl ?_
  refine xa_5 C (by first | assumption | omega) c rfl (by first | assumption | omega) dX1_deedBy_5 ?_
  refine z_astore_n (i := 3) C dX1_deedBy_6 rfl (by decide) ?_
  refine z_aload_n C 1 dX1_deedBy_7 rfl ?_
  refine xg_3F (k := 5) C (by first | assumption | omega) (by decide) kf_X1_27 dX1_deedBy_8 ?_
  refine z_if_le C 18 dX1_deedBy_11 (by decide) (fun h11 => ?_) (fun h11 => ?_)
  · skip
    refine z_iconst C (v := 0) dX1_deedBy_18 rfl ?_
    refine z_top (por G.1) (by unfold por; rw [if_neg (Int32.not_lt.mpr h11)]; done) ?_
    refine z_istore C dX1_deedBy_19 (by decide) ?_
    refine z_pick [2, 3, 4, 1, 0] rfl ?_
    exact jn_X1_deedBy_21 F G hg hz hc hn C0
  · skip
    refine z_iconst C (v := 1) dX1_deedBy_14 rfl ?_
    refine z_goto C 19 dX1_deedBy_15 (by decide) ?_
    refine z_top (por G.1) (by unfold por; rw [if_pos (Int32.not_le.mp h11)]; done) ?_
    refine z_istore C dX1_deedBy_19 (by decide) ?_
    refine z_pick [2, 3, 4, 1, 0] rfl ?_
    exact jn_X1_deedBy_21 F G hg hz hc hn C0
