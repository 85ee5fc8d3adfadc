/-! the class: deeds by rules -/
set_option maxRecDepth 100000 in
set_option maxHeartbeats 4000000 in
theorem c_X1_perform (l : Launch) (E : zE) (F : zF) (G : zGf) {gi : Nat} (hg : gi < 4) (hz : gz G.1) {c : Nat} (hc : c < nC G.1) {d : Int32} (hd : dd G.1 d) : XM l E yX1_perform cX1_perform 6 none 4 [.ref (xadr E.2.2.1 (3, gi, 0)), .int (nI c), .int (d)] (sG F gi G) (fun v F2 => v = none ∧ F2 = sG F gi (perf G c d)) := by
  refine XM.mk kq_X1 (Nat.le_of_ble_eq_true rfl) (fun K s C0 => ?_)
  have C := C0.c
  obtain ⟨⟨eS, lS⟩, ⟨eC, lC⟩⟩ := id hz
  have hc6 : c < 6 := Nat.lt_of_lt_of_le hc lC
  refine z_aload_n C 0 dX1_perform_0 rfl ?_
  refine xg_3c C (by first | assumption | omega) kf_X1_19 dX1_perform_1 ?_
  refine z_iload_n C 1 dX1_perform_4 rfl ?_
  refine xa_5 C (by first | assumption | omega) c rfl (by first | assumption | omega) dX1_perform_5 ?_
  refine z_astore_n (i := 3) C dX1_perform_6 rfl (by decide) ?_
  refine z_iload_n C 3 dX1_perform_7 rfl ?_
  refine z_case (0) (fun h8_0 => ?_) (fun h8_0 => ?_)
  · refine z_tabIn C (0) (32) 40 h8_0 dX1_perform_8 (by decide) (by decide) ?_
    refine z_goto C 140 dX1_perform_40 (by decide) ?_
    refine z_vret C0 dX1_perform_140 ?_
    refine ⟨rfl, ?_⟩
    simp only [perf, makes, busyD]
    rw [if_pos h8_0, if_pos h8_0]
  refine z_case (1) (fun h8_1 => ?_) (fun h8_1 => ?_)
  · refine z_tabIn C (1) (35) 43 h8_1 dX1_perform_8 (by decide) (by decide) ?_
    refine z_aload_n C 0 dX1_perform_43 rfl ?_
    refine xg_7F (k := 0) C (by first | assumption | omega) (by first | assumption | omega) (by decide) kf_X1_90 dX1_perform_44 ?_
    refine z_aload_n C 1 dX1_perform_47 rfl ?_
    refine xg_3F (k := 5) C (by first | assumption | omega) (by decide) kf_X1_27 dX1_perform_48 ?_
    refine z_mmin C dX1_perform_51 q_X1_93 ⟨by decide, Nat.le_of_ble_eq_true rfl⟩ ?_
    refine z_istore C dX1_perform_54 (by decide) ?_
    refine z_aload_n C 2 dX1_perform_56 rfl ?_
    refine z_dup C dX1_perform_57 rfl ?_
    refine xg_3F (k := 5) C (by first | assumption | omega) (by decide) kf_X1_27 dX1_perform_58 ?_
    refine z_iload C 0 dX1_perform_61 rfl ?_
    refine z_isub C dX1_perform_63 ?_
    refine xp_3F (k := 5) C (by first | assumption | omega) (by decide) kf_X1_27 dX1_perform_64 ?_
    refine z_aload_n C 1 dX1_perform_67 rfl ?_
    refine z_iload C 0 dX1_perform_68 rfl ?_
    refine z_iconst C (v := 0) dX1_perform_70 rfl ?_
    refine z_callV2 C (c_X0_gain l E _ _ (by first | assumption | omega) (by first | assumption | omega) _ _) ⟨(by first | assumption | omega), (by first | assumption | omega)⟩ rfl rfl q_X1_99 ⟨by decide, by decide⟩ (Nat.le_of_ble_eq_true rfl) dX1_perform_71 (fun v F9 hp => ?_)
    obtain ⟨rfl, rfl⟩ := hp
    refine z_goto C 140 dX1_perform_74 (by decide) ?_
    refine z_vret C0 dX1_perform_140 ?_
    refine ⟨rfl, ?_⟩
    simp only [perf, makes, busyD]
    rw [if_neg h8_0, if_neg h8_0, if_pos h8_1, if_pos h8_1]
    rfl
  refine z_case (2) (fun h8_2 => ?_) (fun h8_2 => ?_)
  · refine z_tabIn C (2) (69) 77 h8_2 dX1_perform_8 (by decide) (by decide) ?_
    refine z_aload_n C 1 dX1_perform_77 rfl ?_
    refine xg_3F (k := 4) C (by first | assumption | omega) (by decide) kf_X1_23 dX1_perform_78 ?_
    refine z_aload_n C 0 dX1_perform_81 rfl ?_
    refine xg_7F (k := 1) C (by first | assumption | omega) (by first | assumption | omega) (by decide) kf_X1_66 dX1_perform_82 ?_
    refine z_mmin C dX1_perform_85 q_X1_93 ⟨by decide, Nat.le_of_ble_eq_true rfl⟩ ?_
    refine z_istore C dX1_perform_88 (by decide) ?_
    refine z_aload_n C 1 dX1_perform_90 rfl ?_
    refine z_dup C dX1_perform_91 rfl ?_
    refine xg_7F (k := 1) C (by first | assumption | omega) (by first | assumption | omega) (by decide) kf_X1_66 dX1_perform_92 ?_
    refine z_iload C 0 dX1_perform_95 rfl ?_
    refine z_isub C dX1_perform_97 ?_
    refine xp_7F (k := 1) C (by first | assumption | omega) (by first | assumption | omega) (by decide) kf_X1_66 dX1_perform_98 ?_
    refine z_aload_n C 1 dX1_perform_101 rfl ?_
    refine z_iconst C (v := 0) dX1_perform_102 rfl ?_
    refine z_iload C 0 dX1_perform_103 rfl ?_
    refine z_callV2 C (c_X0_gain l E _ _ (by first | assumption | omega) (by first | assumption | omega) _ _) ⟨(by first | assumption | omega), (by first | assumption | omega)⟩ rfl rfl q_X1_99 ⟨by decide, by decide⟩ (Nat.le_of_ble_eq_true rfl) dX1_perform_105 (fun v F9 hp => ?_)
    obtain ⟨rfl, rfl⟩ := hp
    refine z_goto C 140 dX1_perform_108 (by decide) ?_
    refine z_vret C0 dX1_perform_140 ?_
    refine ⟨rfl, ?_⟩
    simp only [perf, makes, busyD]
    rw [if_neg h8_0, if_neg h8_0, if_neg h8_1, if_neg h8_1, if_pos h8_2, if_pos h8_2]
    rfl
  refine z_case (3) (fun h8_3 => ?_) (fun h8_3 => ?_)
  · refine z_tabIn C (3) (103) 111 h8_3 dX1_perform_8 (by decide) (by decide) ?_
    refine z_aload_n C 0 dX1_perform_111 rfl ?_
    refine z_dup C dX1_perform_112 rfl ?_
    refine xg_7F (k := 3) C (by first | assumption | omega) (by first | assumption | omega) (by decide) kf_X1_69 dX1_perform_113 ?_
    refine z_iconst C (v := 1) dX1_perform_116 rfl ?_
    refine z_isub C dX1_perform_117 ?_
    refine xp_7F (k := 3) C (by first | assumption | omega) (by first | assumption | omega) (by decide) kf_X1_69 dX1_perform_118 ?_
    refine z_aload_n C 0 dX1_perform_121 rfl ?_
    refine z_bipush C (v := 10) dX1_perform_122 rfl ?_
    refine z_iconst C (v := 0) dX1_perform_124 rfl ?_
    refine z_callV2 C (c_X0_gain l E _ _ (by first | assumption | omega) (by first | assumption | omega) _ _) ⟨(by first | assumption | omega), (by first | assumption | omega)⟩ rfl rfl q_X1_99 ⟨by decide, by decide⟩ (Nat.le_of_ble_eq_true rfl) dX1_perform_125 (fun v F9 hp => ?_)
    obtain ⟨rfl, rfl⟩ := hp
    refine z_goto C 140 dX1_perform_128 (by decide) ?_
    refine z_vret C0 dX1_perform_140 ?_
    refine ⟨rfl, ?_⟩
    simp only [perf, makes, busyD]
    rw [if_neg h8_0, if_neg h8_0, if_neg h8_1, if_neg h8_1, if_neg h8_2, if_neg h8_2, if_pos h8_3, if_pos h8_3]
    rfl
  refine z_tabOut C 131 (by have q0 := lv_neT (a := (0)) h8_0 rfl; have q1 := lv_neT (a := (1)) h8_1 rfl; have q2 := lv_neT (a := (2)) h8_2 rfl; have q3 := lv_neT (a := (3)) h8_3 rfl; omega) dX1_perform_8 (by decide) ?_
  obtain ⟨j, hj, ej⟩ := hd.resolve_left h8_0 |>.resolve_left h8_1 |>.resolve_left h8_2 |>.resolve_left h8_3
  have hj6 : j < 6 := Nat.lt_of_lt_of_le hj lS
  have es : d - 10 = nI j := by rw [ej]; exact i_10s hj6
  refine z_aload_n C 1 dX1_perform_131 rfl ?_
  refine z_aload_n C 0 dX1_perform_132 rfl ?_
  refine z_iload_n C 3 dX1_perform_133 rfl ?_
  refine z_bipush C (v := 10) dX1_perform_134 rfl ?_
  refine z_isub C dX1_perform_136 ?_
  refine z_top (nI j) (es) ?_
  refine z_callV2 C (c_X1_buy l E _ _ (by first | assumption | omega) (by assumption) (by first | assumption | omega) (by first | assumption | omega)) ⟨(by first | assumption | omega), rfl⟩ rfl rfl q_X1_102 ⟨by decide, by decide⟩ (Nat.le_of_ble_eq_true rfl) dX1_perform_137 (fun v F9 hp => ?_)
  obtain ⟨rfl, rfl⟩ := hp
  refine z_vret C0 dX1_perform_140 ?_
  refine ⟨rfl, ?_⟩
  simp only [perf, makes, busyD]
  rw [if_neg h8_0, if_neg h8_0, if_neg h8_1, if_neg h8_1, if_neg h8_2, if_neg h8_2, if_neg h8_3, if_neg h8_3, es, nI_cl6 (show j < 1000 by omega)]
theorem cg_X1_perform (l : Launch) (E : zE) (F : zF) {gi : Nat} (hg : gi < 4) (hz : gz (F.1 gi).1) {c : Nat} (hc : c < nC (F.1 gi).1) {d : Int32} (hd : dd (F.1 gi).1 d) : XM l E yX1_perform cX1_perform 6 none 4 [.ref (xadr E.2.2.1 (3, gi, 0)), .int (nI c), .int d] F (fun v F2 => v = none ∧ F2 = sG F gi (perf (F.1 gi) c d)) := by
  have h := c_X1_perform l E F (F.1 gi) hg hz hc hd
  rw [sG_id] at h
  exact h
