/-! the class: shops, children, shelves -/
set_option maxRecDepth 100000 in
set_option maxHeartbeats 4000000 in
theorem c_X4_takesStampsOnly (l : Launch) (E : zE) (F : zF) {gi j : Nat} (hg : gi < 4) (hj : j < 6) : XM l E yX4_takesStampsOnly cX4_takesStampsOnly 1 (some .boolean) 1 [.ref (xadr E.2.2.1 (6, gi, j))] (F) (fun v F2 => v = some (.int (bI (isSt ((F.1 gi).1.2.1 j)))) ∧ F2 = F) := by
  refine XM.mk kq_X4 (Nat.le_of_ble_eq_true rfl) (fun K s C0 => ?_)
  have C := C0.c
  refine z_aload_n C 0 dX4_takesStampsOnly_0 rfl ?_
  refine xg_6 (k := 0) C (by first | assumption | omega) (by first | assumption | omega) (by decide) kf_X4_9 dX4_takesStampsOnly_1 ?_
  refine z_iconst C (v := 4) dX4_takesStampsOnly_4 rfl ?_
  refine z_icmp_eq C 17 dX4_takesStampsOnly_5 (by decide) (fun h5 => ?_) (fun h5 => ?_)
  · skip
    refine z_iconst C (v := 1) dX4_takesStampsOnly_17 rfl ?_
    refine z_goto C 22 dX4_takesStampsOnly_18 (by decide) ?_
    refine z_zret C0 rfl dX4_takesStampsOnly_22 ?_
    exact ⟨by simp [isSt, bI, *], rfl⟩
  · skip
    refine z_aload_n C 0 dX4_takesStampsOnly_8 rfl ?_
    refine xg_6 (k := 0) C (by first | assumption | omega) (by first | assumption | omega) (by decide) kf_X4_9 dX4_takesStampsOnly_9 ?_
    refine z_bipush C (v := 6) dX4_takesStampsOnly_12 rfl ?_
    refine z_icmp_ne C 21 dX4_takesStampsOnly_14 (by decide) (fun h14 => ?_) (fun h14 => ?_)
    · skip
      refine z_iconst C (v := 0) dX4_takesStampsOnly_21 rfl ?_
      refine z_zret C0 rfl dX4_takesStampsOnly_22 ?_
      exact ⟨by simp [isSt, bI, *], rfl⟩
    · skip
      refine z_iconst C (v := 1) dX4_takesStampsOnly_17 rfl ?_
      refine z_goto C 22 dX4_takesStampsOnly_18 (by decide) ?_
      refine z_zret C0 rfl dX4_takesStampsOnly_22 ?_
      exact ⟨by simp [isSt, bI, *], rfl⟩
set_option maxRecDepth 100000 in
set_option maxHeartbeats 4000000 in
theorem c_X4_asksNow (l : Launch) (E : zE) (F : zF) {gi j : Nat} (hg : gi < 4) (hj : j < 6) : XM l E yX4_asksNow cX4_asksNow 3 (some .int) 1 [.ref (xadr E.2.2.1 (6, gi, j))] (F) (fun v F2 => v = some (.int (asked ((F.1 gi).1.2.1 j))) ∧ F2 = F) := by
  refine XM.mk kq_X4 (Nat.le_of_ble_eq_true rfl) (fun K s C0 => ?_)
  have C := C0.c
  refine z_aload_n C 0 dX4_asksNow_0 rfl ?_
  refine xg_6 (k := 2) C (by first | assumption | omega) (by first | assumption | omega) (by decide) kf_X4_18 dX4_asksNow_1 ?_
  refine z_i2l C dX4_asksNow_4 ?_
  refine z_lstore_n (i := 1) C dX4_asksNow_5 rfl (by decide) ?_
  refine z_aload_n C 1 dX4_asksNow_6 rfl ?_
  refine xg_6 (k := 0) C (by first | assumption | omega) (by first | assumption | omega) (by decide) kf_X4_9 dX4_asksNow_7 ?_
  refine z_case (1) (fun h10_1 => ?_) (fun h10_1 => ?_)
  · refine z_tabIn C (1) (38) 48 h10_1 dX4_asksNow_10 (by decide) (by decide) ?_
    refine z_lload_n C 0 dX4_asksNow_48 rfl ?_
    refine z_aload_n C 1 dX4_asksNow_49 rfl ?_
    refine xg_6 (k := 1) C (by first | assumption | omega) (by first | assumption | omega) (by decide) kf_X4_15 dX4_asksNow_50 ?_
    refine z_i2l C dX4_asksNow_53 ?_
    refine z_aload_n C 1 dX4_asksNow_54 rfl ?_
    refine xg_6 (k := 3) C (by first | assumption | omega) (by first | assumption | omega) (by decide) kf_X4_21 dX4_asksNow_55 ?_
    refine z_i2l C dX4_asksNow_58 ?_
    refine z_lmul C dX4_asksNow_59 ?_
    refine z_ladd C dX4_asksNow_60 ?_
    refine z_lstore_n (i := 1) C dX4_asksNow_61 rfl (by decide) ?_
    refine z_goto C 116 dX4_asksNow_62 (by decide) ?_
    refine z_lconst C (v := 1) dX4_asksNow_116 rfl ?_
    refine z_ldc2 C dX4_asksNow_117 q_X4_35 ?_
    refine z_lload_n C 0 dX4_asksNow_120 rfl ?_
    refine z_mmin_long C dX4_asksNow_121 q_X4_37 ⟨by decide, Nat.le_of_ble_eq_true rfl⟩ ?_
    refine z_mmax_long C dX4_asksNow_124 q_X4_43 ⟨by decide, Nat.le_of_ble_eq_true rfl⟩ ?_
    refine z_l2i C dX4_asksNow_127 ?_
    refine z_iret C0 dX4_asksNow_128 ?_
    exact ⟨by simp [asked, askL, askM, *], rfl⟩
  refine z_case (2) (fun h10_2 => ?_) (fun h10_2 => ?_)
  · refine z_tabIn C (2) (78) 88 h10_2 dX4_asksNow_10 (by decide) (by decide) ?_
    refine z_lload_n C 0 dX4_asksNow_88 rfl ?_
    refine z_aload_n C 1 dX4_asksNow_89 rfl ?_
    refine xg_6 (k := 1) C (by first | assumption | omega) (by first | assumption | omega) (by decide) kf_X4_15 dX4_asksNow_90 ?_
    refine z_i2l C dX4_asksNow_93 ?_
    refine z_aload_n C 1 dX4_asksNow_94 rfl ?_
    refine xg_6 (k := 4) C (by first | assumption | omega) (by first | assumption | omega) (by decide) kf_X4_24 dX4_asksNow_95 ?_
    refine z_i2l C dX4_asksNow_98 ?_
    refine z_lmul C dX4_asksNow_99 ?_
    refine z_lsub C dX4_asksNow_100 ?_
    refine z_lstore_n (i := 1) C dX4_asksNow_101 rfl (by decide) ?_
    refine z_goto C 116 dX4_asksNow_102 (by decide) ?_
    refine z_lconst C (v := 1) dX4_asksNow_116 rfl ?_
    refine z_ldc2 C dX4_asksNow_117 q_X4_35 ?_
    refine z_lload_n C 0 dX4_asksNow_120 rfl ?_
    refine z_mmin_long C dX4_asksNow_121 q_X4_37 ⟨by decide, Nat.le_of_ble_eq_true rfl⟩ ?_
    refine z_mmax_long C dX4_asksNow_124 q_X4_43 ⟨by decide, Nat.le_of_ble_eq_true rfl⟩ ?_
    refine z_l2i C dX4_asksNow_127 ?_
    refine z_iret C0 dX4_asksNow_128 ?_
    exact ⟨by simp [asked, askL, askM, *], rfl⟩
  refine z_case (3) (fun h10_3 => ?_) (fun h10_3 => ?_)
  · refine z_tabIn C (3) (55) 65 h10_3 dX4_asksNow_10 (by decide) (by decide) ?_
    refine z_lload_n C 0 dX4_asksNow_65 rfl ?_
    refine z_aload_n C 1 dX4_asksNow_66 rfl ?_
    refine xg_6 (k := 1) C (by first | assumption | omega) (by first | assumption | omega) (by decide) kf_X4_15 dX4_asksNow_67 ?_
    refine z_i2l C dX4_asksNow_70 ?_
    refine z_aload_n C 1 dX4_asksNow_71 rfl ?_
    refine xg_6 (k := 3) C (by first | assumption | omega) (by first | assumption | omega) (by decide) kf_X4_21 dX4_asksNow_72 ?_
    refine z_i2l C dX4_asksNow_75 ?_
    refine z_lmul C dX4_asksNow_76 ?_
    refine z_aload_n C 1 dX4_asksNow_77 rfl ?_
    refine xg_6 (k := 3) C (by first | assumption | omega) (by first | assumption | omega) (by decide) kf_X4_21 dX4_asksNow_78 ?_
    refine z_i2l C dX4_asksNow_81 ?_
    refine z_lmul C dX4_asksNow_82 ?_
    refine z_ladd C dX4_asksNow_83 ?_
    refine z_lstore_n (i := 1) C dX4_asksNow_84 rfl (by decide) ?_
    refine z_goto C 116 dX4_asksNow_85 (by decide) ?_
    refine z_lconst C (v := 1) dX4_asksNow_116 rfl ?_
    refine z_ldc2 C dX4_asksNow_117 q_X4_35 ?_
    refine z_lload_n C 0 dX4_asksNow_120 rfl ?_
    refine z_mmin_long C dX4_asksNow_121 q_X4_37 ⟨by decide, Nat.le_of_ble_eq_true rfl⟩ ?_
    refine z_mmax_long C dX4_asksNow_124 q_X4_43 ⟨by decide, Nat.le_of_ble_eq_true rfl⟩ ?_
    refine z_l2i C dX4_asksNow_127 ?_
    refine z_iret C0 dX4_asksNow_128 ?_
    exact ⟨by simp [asked, askL, askM, *], rfl⟩
  refine z_case (4) (fun h10_4 => ?_) (fun h10_4 => ?_)
  · refine z_tabIn C (4) (106) 116 h10_4 dX4_asksNow_10 (by decide) (by decide) ?_
    refine z_lconst C (v := 1) dX4_asksNow_116 rfl ?_
    refine z_ldc2 C dX4_asksNow_117 q_X4_35 ?_
    refine z_lload_n C 0 dX4_asksNow_120 rfl ?_
    refine z_mmin_long C dX4_asksNow_121 q_X4_37 ⟨by decide, Nat.le_of_ble_eq_true rfl⟩ ?_
    refine z_mmax_long C dX4_asksNow_124 q_X4_43 ⟨by decide, Nat.le_of_ble_eq_true rfl⟩ ?_
    refine z_l2i C dX4_asksNow_127 ?_
    refine z_iret C0 dX4_asksNow_128 ?_
    exact ⟨by simp [asked, askL, askM, *], rfl⟩
  refine z_case (5) (fun h10_5 => ?_) (fun h10_5 => ?_)
  · refine z_tabIn C (5) (95) 105 h10_5 dX4_asksNow_10 (by decide) (by decide) ?_
    refine z_lload_n C 0 dX4_asksNow_105 rfl ?_
    refine z_aload_n C 1 dX4_asksNow_106 rfl ?_
    refine xg_6 (k := 4) C (by first | assumption | omega) (by first | assumption | omega) (by decide) kf_X4_24 dX4_asksNow_107 ?_
    refine z_i2l C dX4_asksNow_110 ?_
    refine z_lsub C dX4_asksNow_111 ?_
    refine z_lstore_n (i := 1) C dX4_asksNow_112 rfl (by decide) ?_
    refine z_goto C 116 dX4_asksNow_113 (by decide) ?_
    refine z_lconst C (v := 1) dX4_asksNow_116 rfl ?_
    refine z_ldc2 C dX4_asksNow_117 q_X4_35 ?_
    refine z_lload_n C 0 dX4_asksNow_120 rfl ?_
    refine z_mmin_long C dX4_asksNow_121 q_X4_37 ⟨by decide, Nat.le_of_ble_eq_true rfl⟩ ?_
    refine z_mmax_long C dX4_asksNow_124 q_X4_43 ⟨by decide, Nat.le_of_ble_eq_true rfl⟩ ?_
    refine z_l2i C dX4_asksNow_127 ?_
    refine z_iret C0 dX4_asksNow_128 ?_
    exact ⟨by simp [asked, askL, askM, *], rfl⟩
  refine z_case (6) (fun h10_6 => ?_) (fun h10_6 => ?_)
  · refine z_tabIn C (6) (38) 48 h10_6 dX4_asksNow_10 (by decide) (by decide) ?_
    refine z_lload_n C 0 dX4_asksNow_48 rfl ?_
    refine z_aload_n C 1 dX4_asksNow_49 rfl ?_
    refine xg_6 (k := 1) C (by first | assumption | omega) (by first | assumption | omega) (by decide) kf_X4_15 dX4_asksNow_50 ?_
    refine z_i2l C dX4_asksNow_53 ?_
    refine z_aload_n C 1 dX4_asksNow_54 rfl ?_
    refine xg_6 (k := 3) C (by first | assumption | omega) (by first | assumption | omega) (by decide) kf_X4_21 dX4_asksNow_55 ?_
    refine z_i2l C dX4_asksNow_58 ?_
    refine z_lmul C dX4_asksNow_59 ?_
    refine z_ladd C dX4_asksNow_60 ?_
    refine z_lstore_n (i := 1) C dX4_asksNow_61 rfl (by decide) ?_
    refine z_goto C 116 dX4_asksNow_62 (by decide) ?_
    refine z_lconst C (v := 1) dX4_asksNow_116 rfl ?_
    refine z_ldc2 C dX4_asksNow_117 q_X4_35 ?_
    refine z_lload_n C 0 dX4_asksNow_120 rfl ?_
    refine z_mmin_long C dX4_asksNow_121 q_X4_37 ⟨by decide, Nat.le_of_ble_eq_true rfl⟩ ?_
    refine z_mmax_long C dX4_asksNow_124 q_X4_43 ⟨by decide, Nat.le_of_ble_eq_true rfl⟩ ?_
    refine z_l2i C dX4_asksNow_127 ?_
    refine z_iret C0 dX4_asksNow_128 ?_
    exact ⟨by simp [asked, askL, askM, *], rfl⟩
  refine z_tabOut C 116 (by have q0 := lv_neT (a := (1)) h10_1 rfl; have q1 := lv_neT (a := (2)) h10_2 rfl; have q2 := lv_neT (a := (3)) h10_3 rfl; have q3 := lv_neT (a := (4)) h10_4 rfl; have q4 := lv_neT (a := (5)) h10_5 rfl; have q5 := lv_neT (a := (6)) h10_6 rfl; omega) dX4_asksNow_10 (by decide) ?_
  refine z_lconst C (v := 1) dX4_asksNow_116 rfl ?_
  refine z_ldc2 C dX4_asksNow_117 q_X4_35 ?_
  refine z_lload_n C 0 dX4_asksNow_120 rfl ?_
  refine z_mmin_long C dX4_asksNow_121 q_X4_37 ⟨by decide, Nat.le_of_ble_eq_true rfl⟩ ?_
  refine z_mmax_long C dX4_asksNow_124 q_X4_43 ⟨by decide, Nat.le_of_ble_eq_true rfl⟩ ?_
  refine z_l2i C dX4_asksNow_127 ?_
  refine z_iret C0 dX4_asksNow_128 ?_
  exact ⟨by simp [asked, askL, askM, *], rfl⟩
