/-! the class: shops, children -/
set_option maxRecDepth 100000 in
set_option maxHeartbeats 4000000 in
theorem c_X0_come (l : Launch) (E : zE) (F : zF) (G : zGf) {gi : Nat} (hg : gi < 4) {j : Nat} (hj : j < 6) (a b : Int32) : XM l E yX0_come cX0_come 3 none 1 [.ref (xadr E.2.2.1 (7, gi, j)), .int (a), .int (b)] (sG F gi G) (fun v F2 => v = none ∧ F2 = sG F gi (fCh (fCh (fCh (fCh (fCh (fCh G j 0 a) j 1 b) j 2 0) j 3 0) j 4 0) j 5 (-1))) := by
  refine XM.mk kq_X0 (Nat.le_of_ble_eq_true rfl) (fun K s C0 => ?_)
  have C := C0.c
  refine z_aload_n C 0 dX0_come_0 rfl ?_
  refine z_iload_n C 1 dX0_come_1 rfl ?_
  refine xp_7F (k := 0) C (by first | assumption | omega) (by first | assumption | omega) (by decide) kf_X0_15 dX0_come_2 ?_
  refine z_aload_n C 0 dX0_come_5 rfl ?_
  refine z_iload_n C 2 dX0_come_6 rfl ?_
  refine xp_7F (k := 1) C (by first | assumption | omega) (by first | assumption | omega) (by decide) kf_X0_18 dX0_come_7 ?_
  refine z_aload_n C 0 dX0_come_10 rfl ?_
  refine z_iconst C (v := 0) dX0_come_11 rfl ?_
  refine xp_7F (k := 2) C (by first | assumption | omega) (by first | assumption | omega) (by decide) kf_X0_21 dX0_come_12 ?_
  refine z_aload_n C 0 dX0_come_15 rfl ?_
  refine z_iconst C (v := 0) dX0_come_16 rfl ?_
  refine xp_7F (k := 3) C (by first | assumption | omega) (by first | assumption | omega) (by decide) kf_X0_24 dX0_come_17 ?_
  refine z_aload_n C 0 dX0_come_20 rfl ?_
  refine z_iconst C (v := 0) dX0_come_21 rfl ?_
  refine xp_7F (k := 4) C (by first | assumption | omega) (by first | assumption | omega) (by decide) kf_X0_27 dX0_come_22 ?_
  refine z_aload_n C 0 dX0_come_25 rfl ?_
  refine z_iconst C (v := (-1)) dX0_come_26 rfl ?_
  refine xp_7F (k := 5) C (by first | assumption | omega) (by first | assumption | omega) (by decide) kf_X0_9 dX0_come_27 ?_
  refine z_vret C0 dX0_come_30 ?_
  exact ⟨rfl, rfl⟩
set_option maxRecDepth 100000 in
set_option maxHeartbeats 4000000 in
theorem c_X0_gain (l : Launch) (E : zE) (F : zF) (G : zGf) {gi : Nat} (hg : gi < 4) {j : Nat} (hj : j < 6) (a b : Int32) : XM l E yX0_gain cX0_gain 3 none 1 [.ref (xadr E.2.2.1 (7, gi, j)), .int (a), .int (b)] (sG F gi G) (fun v F2 => v = none ∧ F2 = sG F gi (gAdd G.1 j a b, G.2)) := by
  refine XM.mk kq_X0 (Nat.le_of_ble_eq_true rfl) (fun K s C0 => ?_)
  have C := C0.c
  refine z_aload_n C 0 dX0_gain_0 rfl ?_
  refine z_sipush C (v := 9999) dX0_gain_1 rfl ?_
  refine z_aload_n C 0 dX0_gain_4 rfl ?_
  refine xg_7F (k := 1) C (by first | assumption | omega) (by first | assumption | omega) (by decide) kf_X0_18 dX0_gain_5 ?_
  refine z_iload_n C 1 dX0_gain_8 rfl ?_
  refine z_iadd C dX0_gain_9 ?_
  refine z_mmin C dX0_gain_10 q_X0_30 ⟨by decide, Nat.le_of_ble_eq_true rfl⟩ ?_
  refine z_top (mn9 (G.1.2.2 j 1 + a)) rfl ?_
  refine xp_7F (k := 1) C (by first | assumption | omega) (by first | assumption | omega) (by decide) kf_X0_18 dX0_gain_13 ?_
  refine z_aload_n C 0 dX0_gain_16 rfl ?_
  refine z_sipush C (v := 9999) dX0_gain_17 rfl ?_
  refine z_aload_n C 0 dX0_gain_20 rfl ?_
  refine xg_7F (k := 2) C (by first | assumption | omega) (by first | assumption | omega) (by decide) kf_X0_21 dX0_gain_21 ?_
  refine z_top (G.1.2.2 j 2) (by simp [fCh, fSh, fSc, gCh, gSh, gSc, va_up, upd]) ?_
  refine z_iload_n C 2 dX0_gain_24 rfl ?_
  refine z_iadd C dX0_gain_25 ?_
  refine z_mmin C dX0_gain_26 q_X0_30 ⟨by decide, Nat.le_of_ble_eq_true rfl⟩ ?_
  refine z_top (mn9 (G.1.2.2 j 2 + b)) rfl ?_
  refine xp_7F (k := 2) C (by first | assumption | omega) (by first | assumption | omega) (by decide) kf_X0_21 dX0_gain_29 ?_
  refine z_vret C0 dX0_gain_32 ?_
  exact ⟨rfl, rfl⟩
set_option maxRecDepth 100000 in
set_option maxHeartbeats 4000000 in
theorem c_X0_takeChild (l : Launch) (E : zE) (F : zF) (G : zGf) {gi : Nat} (hg : gi < 4) {gj j : Nat} (hgj : gj < 4) (hne : gj ≠ gi) (hj : j < 6) : XM l E yX0_takeChild cX0_takeChild 2 none 1 [.ref (xadr E.2.2.1 (7, gi, j)), .ref (xadr E.2.2.1 (7, gj, j))] (sG F gi G) (fun v F2 => v = none ∧ F2 = sG F gi (fCh (fCh (fCh (fCh (fCh (fCh G j 0 ((F.1 gj).1.2.2 j 0)) j 1 ((F.1 gj).1.2.2 j 1)) j 2 ((F.1 gj).1.2.2 j 2)) j 3 ((F.1 gj).1.2.2 j 3)) j 4 ((F.1 gj).1.2.2 j 4)) j 5 ((F.1 gj).1.2.2 j 5))) := by
  refine XM.mk kq_X0 (Nat.le_of_ble_eq_true rfl) (fun K s C0 => ?_)
  have C := C0.c
  refine z_aload_n C 0 dX0_takeChild_0 rfl ?_
  refine z_aload_n C 1 dX0_takeChild_1 rfl ?_
  refine xg_7 (k := 0) C (by first | assumption | omega) (by first | assumption | omega) (by decide) kf_X0_15 dX0_takeChild_2 ?_
  refine z_top ((F.1 gj).1.2.2 j 0) (by rw [sG_ne _ _ hne]) ?_
  refine xp_7F (k := 0) C (by first | assumption | omega) (by first | assumption | omega) (by decide) kf_X0_15 dX0_takeChild_5 ?_
  refine z_aload_n C 0 dX0_takeChild_8 rfl ?_
  refine z_aload_n C 1 dX0_takeChild_9 rfl ?_
  refine xg_7 (k := 1) C (by first | assumption | omega) (by first | assumption | omega) (by decide) kf_X0_18 dX0_takeChild_10 ?_
  refine z_top ((F.1 gj).1.2.2 j 1) (by rw [sG_ne _ _ hne]) ?_
  refine xp_7F (k := 1) C (by first | assumption | omega) (by first | assumption | omega) (by decide) kf_X0_18 dX0_takeChild_13 ?_
  refine z_aload_n C 0 dX0_takeChild_16 rfl ?_
  refine z_aload_n C 1 dX0_takeChild_17 rfl ?_
  refine xg_7 (k := 2) C (by first | assumption | omega) (by first | assumption | omega) (by decide) kf_X0_21 dX0_takeChild_18 ?_
  refine z_top ((F.1 gj).1.2.2 j 2) (by rw [sG_ne _ _ hne]) ?_
  refine xp_7F (k := 2) C (by first | assumption | omega) (by first | assumption | omega) (by decide) kf_X0_21 dX0_takeChild_21 ?_
  refine z_aload_n C 0 dX0_takeChild_24 rfl ?_
  refine z_aload_n C 1 dX0_takeChild_25 rfl ?_
  refine xg_7 (k := 3) C (by first | assumption | omega) (by first | assumption | omega) (by decide) kf_X0_24 dX0_takeChild_26 ?_
  refine z_top ((F.1 gj).1.2.2 j 3) (by rw [sG_ne _ _ hne]) ?_
  refine xp_7F (k := 3) C (by first | assumption | omega) (by first | assumption | omega) (by decide) kf_X0_24 dX0_takeChild_29 ?_
  refine z_aload_n C 0 dX0_takeChild_32 rfl ?_
  refine z_aload_n C 1 dX0_takeChild_33 rfl ?_
  refine xg_7 (k := 4) C (by first | assumption | omega) (by first | assumption | omega) (by decide) kf_X0_27 dX0_takeChild_34 ?_
  refine z_top ((F.1 gj).1.2.2 j 4) (by rw [sG_ne _ _ hne]) ?_
  refine xp_7F (k := 4) C (by first | assumption | omega) (by first | assumption | omega) (by decide) kf_X0_27 dX0_takeChild_37 ?_
  refine z_aload_n C 0 dX0_takeChild_40 rfl ?_
  refine z_aload_n C 1 dX0_takeChild_41 rfl ?_
  refine xg_7 (k := 5) C (by first | assumption | omega) (by first | assumption | omega) (by decide) kf_X0_9 dX0_takeChild_42 ?_
  refine z_top ((F.1 gj).1.2.2 j 5) (by rw [sG_ne _ _ hne]) ?_
  refine xp_7F (k := 5) C (by first | assumption | omega) (by first | assumption | omega) (by decide) kf_X0_9 dX0_takeChild_45 ?_
  refine z_vret C0 dX0_takeChild_48 ?_
  exact ⟨rfl, rfl⟩
set_option maxRecDepth 100000 in
set_option maxHeartbeats 4000000 in
theorem c_X4_open (l : Launch) (E : zE) (F : zF) (G : zGf) {gi : Nat} (hg : gi < 4) {j : Nat} (hj : j < 6) (a b d : Int32) : XM l E yX4_open cX4_open 4 none 1 [.ref (xadr E.2.2.1 (6, gi, j)), .int (a), .int (b), .int (d)] (sG F gi G) (fun v F2 => v = none ∧ F2 = sG F gi (fSh (fSh (fSh (fSh (fSh G j 0 a) j 1 b) j 2 d) j 3 0) j 4 0)) := by
  refine XM.mk kq_X4 (Nat.le_of_ble_eq_true rfl) (fun K s C0 => ?_)
  have C := C0.c
  refine z_aload_n C 0 dX4_open_0 rfl ?_
  refine z_iload_n C 1 dX4_open_1 rfl ?_
  refine xp_6F (k := 0) C (by first | assumption | omega) (by first | assumption | omega) (by decide) kf_X4_9 dX4_open_2 ?_
  refine z_aload_n C 0 dX4_open_5 rfl ?_
  refine z_iload_n C 2 dX4_open_6 rfl ?_
  refine xp_6F (k := 1) C (by first | assumption | omega) (by first | assumption | omega) (by decide) kf_X4_15 dX4_open_7 ?_
  refine z_aload_n C 0 dX4_open_10 rfl ?_
  refine z_iload_n C 3 dX4_open_11 rfl ?_
  refine xp_6F (k := 2) C (by first | assumption | omega) (by first | assumption | omega) (by decide) kf_X4_18 dX4_open_12 ?_
  refine z_aload_n C 0 dX4_open_15 rfl ?_
  refine z_iconst C (v := 0) dX4_open_16 rfl ?_
  refine xp_6F (k := 3) C (by first | assumption | omega) (by first | assumption | omega) (by decide) kf_X4_21 dX4_open_17 ?_
  refine z_aload_n C 0 dX4_open_20 rfl ?_
  refine z_iconst C (v := 0) dX4_open_21 rfl ?_
  refine xp_6F (k := 4) C (by first | assumption | omega) (by first | assumption | omega) (by decide) kf_X4_24 dX4_open_22 ?_
  refine z_vret C0 dX4_open_25 ?_
  exact ⟨rfl, rfl⟩
set_option maxRecDepth 100000 in
set_option maxHeartbeats 4000000 in
theorem c_X4_takeShop (l : Launch) (E : zE) (F : zF) (G : zGf) {gi : Nat} (hg : gi < 4) {gj j : Nat} (hgj : gj < 4) (hne : gj ≠ gi) (hj : j < 6) : XM l E yX4_takeShop cX4_takeShop 2 none 1 [.ref (xadr E.2.2.1 (6, gi, j)), .ref (xadr E.2.2.1 (6, gj, j))] (sG F gi G) (fun v F2 => v = none ∧ F2 = sG F gi (fSh (fSh (fSh (fSh (fSh G j 0 ((F.1 gj).1.2.1 j 0)) j 1 ((F.1 gj).1.2.1 j 1)) j 2 ((F.1 gj).1.2.1 j 2)) j 3 ((F.1 gj).1.2.1 j 3)) j 4 ((F.1 gj).1.2.1 j 4))) := by
  refine XM.mk kq_X4 (Nat.le_of_ble_eq_true rfl) (fun K s C0 => ?_)
  have C := C0.c
  refine z_aload_n C 0 dX4_takeShop_0 rfl ?_
  refine z_aload_n C 1 dX4_takeShop_1 rfl ?_
  refine xg_6 (k := 0) C (by first | assumption | omega) (by first | assumption | omega) (by decide) kf_X4_9 dX4_takeShop_2 ?_
  refine z_top ((F.1 gj).1.2.1 j 0) (by rw [sG_ne _ _ hne]) ?_
  refine xp_6F (k := 0) C (by first | assumption | omega) (by first | assumption | omega) (by decide) kf_X4_9 dX4_takeShop_5 ?_
  refine z_aload_n C 0 dX4_takeShop_8 rfl ?_
  refine z_aload_n C 1 dX4_takeShop_9 rfl ?_
  refine xg_6 (k := 1) C (by first | assumption | omega) (by first | assumption | omega) (by decide) kf_X4_15 dX4_takeShop_10 ?_
  refine z_top ((F.1 gj).1.2.1 j 1) (by rw [sG_ne _ _ hne]) ?_
  refine xp_6F (k := 1) C (by first | assumption | omega) (by first | assumption | omega) (by decide) kf_X4_15 dX4_takeShop_13 ?_
  refine z_aload_n C 0 dX4_takeShop_16 rfl ?_
  refine z_aload_n C 1 dX4_takeShop_17 rfl ?_
  refine xg_6 (k := 2) C (by first | assumption | omega) (by first | assumption | omega) (by decide) kf_X4_18 dX4_takeShop_18 ?_
  refine z_top ((F.1 gj).1.2.1 j 2) (by rw [sG_ne _ _ hne]) ?_
  refine xp_6F (k := 2) C (by first | assumption | omega) (by first | assumption | omega) (by decide) kf_X4_18 dX4_takeShop_21 ?_
  refine z_aload_n C 0 dX4_takeShop_24 rfl ?_
  refine z_aload_n C 1 dX4_takeShop_25 rfl ?_
  refine xg_6 (k := 3) C (by first | assumption | omega) (by first | assumption | omega) (by decide) kf_X4_21 dX4_takeShop_26 ?_
  refine z_top ((F.1 gj).1.2.1 j 3) (by rw [sG_ne _ _ hne]) ?_
  refine xp_6F (k := 3) C (by first | assumption | omega) (by first | assumption | omega) (by decide) kf_X4_21 dX4_takeShop_29 ?_
  refine z_aload_n C 0 dX4_takeShop_32 rfl ?_
  refine z_aload_n C 1 dX4_takeShop_33 rfl ?_
  refine xg_6 (k := 4) C (by first | assumption | omega) (by first | assumption | omega) (by decide) kf_X4_24 dX4_takeShop_34 ?_
  refine z_top ((F.1 gj).1.2.1 j 4) (by rw [sG_ne _ _ hne]) ?_
  refine xp_6F (k := 4) C (by first | assumption | omega) (by first | assumption | omega) (by decide) kf_X4_24 dX4_takeShop_37 ?_
  refine z_vret C0 dX4_takeShop_40 ?_
  exact ⟨rfl, rfl⟩
set_option maxRecDepth 100000 in
set_option maxHeartbeats 4000000 in
theorem c_X4_takesStampsOnly (l : Launch) (E : zE) (F : zF) {gi j : Nat} (hg : gi < 4) (hj : j < 6) : XM l E yX4_takesStampsOnly cX4_takesStampsOnly 1 (some .boolean) 1 [.ref (xadr E.2.2.1 (6, gi, j))] (F) (fun v F2 => v = some (.int (bI (isSt ((F.1 gi).1.2.1 j)))) ∧ F2 = F) := by
  refine XM.mk kq_X4 (Nat.le_of_ble_eq_true rfl) (fun K s C0 => ?_)
  have C := C0.c
  refine z_aload_n C 0 dX4_takesStampsOnly_0 rfl ?_
  refine xg_6 (k := 0) C (by first | assumption | omega) (by first | assumption | omega) (by decide) kf_X4_9 dX4_takesStampsOnly_1 ?_
  refine z_iconst C (v := 4) dX4_takesStampsOnly_4 rfl ?_
  refine z_icmp_eq C 17 dX4_takesStampsOnly_5 (by decide) (fun h5 => ?_) (fun h5 => ?_)
  · skip
    refine z_iconst C (v := 1) dX4_takesStampsOnly_17 rfl ?_
    refine z_goto C 22 dX4_takesStampsOnly_18 (by decide) ?_
    refine z_zret C0 rfl dX4_takesStampsOnly_22 ?_
    exact ⟨by simp [isSt, bI, *], rfl⟩
  · skip
    refine z_aload_n C 0 dX4_takesStampsOnly_8 rfl ?_
    refine xg_6 (k := 0) C (by first | assumption | omega) (by first | assumption | omega) (by decide) kf_X4_9 dX4_takesStampsOnly_9 ?_
    refine z_bipush C (v := 6) dX4_takesStampsOnly_12 rfl ?_
    refine z_icmp_ne C 21 dX4_takesStampsOnly_14 (by decide) (fun h14 => ?_) (fun h14 => ?_)
    · skip
      refine z_iconst C (v := 0) dX4_takesStampsOnly_21 rfl ?_
      refine z_zret C0 rfl dX4_takesStampsOnly_22 ?_
      exact ⟨by simp [isSt, bI, *], rfl⟩
    · skip
      refine z_iconst C (v := 1) dX4_takesStampsOnly_17 rfl ?_
      refine z_goto C 22 dX4_takesStampsOnly_18 (by decide) ?_
      refine z_zret C0 rfl dX4_takesStampsOnly_22 ?_
      exact ⟨by simp [isSt, bI, *], rfl⟩
set_option maxRecDepth 100000 in
set_option maxHeartbeats 4000000 in
theorem c_X4_asksNow (l : Launch) (E : zE) (F : zF) {gi j : Nat} (hg : gi < 4) (hj : j < 6) : XM l E yX4_asksNow cX4_asksNow 3 (some .int) 1 [.ref (xadr E.2.2.1 (6, gi, j))] (F) (fun v F2 => v = some (.int (asked ((F.1 gi).1.2.1 j))) ∧ F2 = F) := by
  refine XM.mk kq_X4 (Nat.le_of_ble_eq_true rfl) (fun K s C0 => ?_)
  have C := C0.c
  refine z_aload_n C 0 dX4_asksNow_0 rfl ?_
  refine xg_6 (k := 2) C (by first | assumption | omega) (by first | assumption | omega) (by decide) kf_X4_18 dX4_asksNow_1 ?_
  refine z_i2l C dX4_asksNow_4 ?_
  refine z_lstore_n (i := 1) C dX4_asksNow_5 rfl (by decide) ?_
  refine z_aload_n C 1 dX4_asksNow_6 rfl ?_
  refine xg_6 (k := 0) C (by first | assumption | omega) (by first | assumption | omega) (by decide) kf_X4_9 dX4_asksNow_7 ?_
  refine z_case (1) (fun h10_1 => ?_) (fun h10_1 => ?_)
  · refine z_tabIn C (1) (38) 48 h10_1 dX4_asksNow_10 (by decide) (by decide) ?_
    refine z_lload_n C 0 dX4_asksNow_48 rfl ?_
    refine z_aload_n C 1 dX4_asksNow_49 rfl ?_
    refine xg_6 (k := 1) C (by first | assumption | omega) (by first | assumption | omega) (by decide) kf_X4_15 dX4_asksNow_50 ?_
    refine z_i2l C dX4_asksNow_53 ?_
    refine z_aload_n C 1 dX4_asksNow_54 rfl ?_
    refine xg_6 (k := 3) C (by first | assumption | omega) (by first | assumption | omega) (by decide) kf_X4_21 dX4_asksNow_55 ?_
    refine z_i2l C dX4_asksNow_58 ?_
    refine z_lmul C dX4_asksNow_59 ?_
    refine z_ladd C dX4_asksNow_60 ?_
    refine z_lstore_n (i := 1) C dX4_asksNow_61 rfl (by decide) ?_
    refine z_goto C 116 dX4_asksNow_62 (by decide) ?_
    refine z_lconst C (v := 1) dX4_asksNow_116 rfl ?_
    refine z_ldc2 C dX4_asksNow_117 q_X4_35 ?_
    refine z_lload_n C 0 dX4_asksNow_120 rfl ?_
    refine z_mmin_long C dX4_asksNow_121 q_X4_37 ⟨by decide, Nat.le_of_ble_eq_true rfl⟩ ?_
    refine z_mmax_long C dX4_asksNow_124 q_X4_43 ⟨by decide, Nat.le_of_ble_eq_true rfl⟩ ?_
    refine z_l2i C dX4_asksNow_127 ?_
    refine z_iret C0 dX4_asksNow_128 ?_
    exact ⟨by simp [asked, askL, askM, *], rfl⟩
  refine z_case (2) (fun h10_2 => ?_) (fun h10_2 => ?_)
  · refine z_tabIn C (2) (78) 88 h10_2 dX4_asksNow_10 (by decide) (by decide) ?_
    refine z_lload_n C 0 dX4_asksNow_88 rfl ?_
    refine z_aload_n C 1 dX4_asksNow_89 rfl ?_
    refine xg_6 (k := 1) C (by first | assumption | omega) (by first | assumption | omega) (by decide) kf_X4_15 dX4_asksNow_90 ?_
    refine z_i2l C dX4_asksNow_93 ?_
    refine z_aload_n C 1 dX4_asksNow_94 rfl ?_
    refine xg_6 (k := 4) C (by first | assumption | omega) (by first | assumption | omega) (by decide) kf_X4_24 dX4_asksNow_95 ?_
    refine z_i2l C dX4_asksNow_98 ?_
    refine z_lmul C dX4_asksNow_99 ?_
    refine z_lsub C dX4_asksNow_100 ?_
    refine z_lstore_n (i := 1) C dX4_asksNow_101 rfl (by decide) ?_
    refine z_goto C 116 dX4_asksNow_102 (by decide) ?_
    refine z_lconst C (v := 1) dX4_asksNow_116 rfl ?_
    refine z_ldc2 C dX4_asksNow_117 q_X4_35 ?_
    refine z_lload_n C 0 dX4_asksNow_120 rfl ?_
    refine z_mmin_long C dX4_asksNow_121 q_X4_37 ⟨by decide, Nat.le_of_ble_eq_true rfl⟩ ?_
    refine z_mmax_long C dX4_asksNow_124 q_X4_43 ⟨by decide, Nat.le_of_ble_eq_true rfl⟩ ?_
    refine z_l2i C dX4_asksNow_127 ?_
    refine z_iret C0 dX4_asksNow_128 ?_
    exact ⟨by simp [asked, askL, askM, *], rfl⟩
  refine z_case (3) (fun h10_3 => ?_) (fun h10_3 => ?_)
  · refine z_tabIn C (3) (55) 65 h10_3 dX4_asksNow_10 (by decide) (by decide) ?_
    refine z_lload_n C 0 dX4_asksNow_65 rfl ?_
    refine z_aload_n C 1 dX4_asksNow_66 rfl ?_
    refine xg_6 (k := 1) C (by first | assumption | omega) (by first | assumption | omega) (by decide) kf_X4_15 dX4_asksNow_67 ?_
    refine z_i2l C dX4_asksNow_70 ?_
    refine z_aload_n C 1 dX4_asksNow_71 rfl ?_
    refine xg_6 (k := 3) C (by first | assumption | omega) (by first | assumption | omega) (by decide) kf_X4_21 dX4_asksNow_72 ?_
    refine z_i2l C dX4_asksNow_75 ?_
    refine z_lmul C dX4_asksNow_76 ?_
    refine z_aload_n C 1 dX4_asksNow_77 rfl ?_
    refine xg_6 (k := 3) C (by first | assumption | omega) (by first | assumption | omega) (by decide) kf_X4_21 dX4_asksNow_78 ?_
    refine z_i2l C dX4_asksNow_81 ?_
    refine z_lmul C dX4_asksNow_82 ?_
    refine z_ladd C dX4_asksNow_83 ?_
    refine z_lstore_n (i := 1) C dX4_asksNow_84 rfl (by decide) ?_
    refine z_goto C 116 dX4_asksNow_85 (by decide) ?_
    refine z_lconst C (v := 1) dX4_asksNow_116 rfl ?_
    refine z_ldc2 C dX4_asksNow_117 q_X4_35 ?_
    refine z_lload_n C 0 dX4_asksNow_120 rfl ?_
    refine z_mmin_long C dX4_asksNow_121 q_X4_37 ⟨by decide, Nat.le_of_ble_eq_true rfl⟩ ?_
    refine z_mmax_long C dX4_asksNow_124 q_X4_43 ⟨by decide, Nat.le_of_ble_eq_true rfl⟩ ?_
    refine z_l2i C dX4_asksNow_127 ?_
    refine z_iret C0 dX4_asksNow_128 ?_
    exact ⟨by simp [asked, askL, askM, *], rfl⟩
  refine z_case (4) (fun h10_4 => ?_) (fun h10_4 => ?_)
  · refine z_tabIn C (4) (106) 116 h10_4 dX4_asksNow_10 (by decide) (by decide) ?_
    refine z_lconst C (v := 1) dX4_asksNow_116 rfl ?_
    refine z_ldc2 C dX4_asksNow_117 q_X4_35 ?_
    refine z_lload_n C 0 dX4_asksNow_120 rfl ?_
    refine z_mmin_long C dX4_asksNow_121 q_X4_37 ⟨by decide, Nat.le_of_ble_eq_true rfl⟩ ?_
    refine z_mmax_long C dX4_asksNow_124 q_X4_43 ⟨by decide, Nat.le_of_ble_eq_true rfl⟩ ?_
    refine z_l2i C dX4_asksNow_127 ?_
    refine z_iret C0 dX4_asksNow_128 ?_
    exact ⟨by simp [asked, askL, askM, *], rfl⟩
  refine z_case (5) (fun h10_5 => ?_) (fun h10_5 => ?_)
  · refine z_tabIn C (5) (95) 105 h10_5 dX4_asksNow_10 (by decide) (by decide) ?_
    refine z_lload_n C 0 dX4_asksNow_105 rfl ?_
    refine z_aload_n C 1 dX4_asksNow_106 rfl ?_
    refine xg_6 (k := 4) C (by first | assumption | omega) (by first | assumption | omega) (by decide) kf_X4_24 dX4_asksNow_107 ?_
    refine z_i2l C dX4_asksNow_110 ?_
    refine z_lsub C dX4_asksNow_111 ?_
    refine z_lstore_n (i := 1) C dX4_asksNow_112 rfl (by decide) ?_
    refine z_goto C 116 dX4_asksNow_113 (by decide) ?_
    refine z_lconst C (v := 1) dX4_asksNow_116 rfl ?_
    refine z_ldc2 C dX4_asksNow_117 q_X4_35 ?_
    refine z_lload_n C 0 dX4_asksNow_120 rfl ?_
    refine z_mmin_long C dX4_asksNow_121 q_X4_37 ⟨by decide, Nat.le_of_ble_eq_true rfl⟩ ?_
    refine z_mmax_long C dX4_asksNow_124 q_X4_43 ⟨by decide, Nat.le_of_ble_eq_true rfl⟩ ?_
    refine z_l2i C dX4_asksNow_127 ?_
    refine z_iret C0 dX4_asksNow_128 ?_
    exact ⟨by simp [asked, askL, askM, *], rfl⟩
  refine z_case (6) (fun h10_6 => ?_) (fun h10_6 => ?_)
  · refine z_tabIn C (6) (38) 48 h10_6 dX4_asksNow_10 (by decide) (by decide) ?_
    refine z_lload_n C 0 dX4_asksNow_48 rfl ?_
    refine z_aload_n C 1 dX4_asksNow_49 rfl ?_
    refine xg_6 (k := 1) C (by first | assumption | omega) (by first | assumption | omega) (by decide) kf_X4_15 dX4_asksNow_50 ?_
    refine z_i2l C dX4_asksNow_53 ?_
    refine z_aload_n C 1 dX4_asksNow_54 rfl ?_
    refine xg_6 (k := 3) C (by first | assumption | omega) (by first | assumption | omega) (by decide) kf_X4_21 dX4_asksNow_55 ?_
    refine z_i2l C dX4_asksNow_58 ?_
    refine z_lmul C dX4_asksNow_59 ?_
    refine z_ladd C dX4_asksNow_60 ?_
    refine z_lstore_n (i := 1) C dX4_asksNow_61 rfl (by decide) ?_
    refine z_goto C 116 dX4_asksNow_62 (by decide) ?_
    refine z_lconst C (v := 1) dX4_asksNow_116 rfl ?_
    refine z_ldc2 C dX4_asksNow_117 q_X4_35 ?_
    refine z_lload_n C 0 dX4_asksNow_120 rfl ?_
    refine z_mmin_long C dX4_asksNow_121 q_X4_37 ⟨by decide, Nat.le_of_ble_eq_true rfl⟩ ?_
    refine z_mmax_long C dX4_asksNow_124 q_X4_43 ⟨by decide, Nat.le_of_ble_eq_true rfl⟩ ?_
    refine z_l2i C dX4_asksNow_127 ?_
    refine z_iret C0 dX4_asksNow_128 ?_
    exact ⟨by simp [asked, askL, askM, *], rfl⟩
  refine z_tabOut C 116 (by have q0 := lv_neT (a := (1)) h10_1 rfl; have q1 := lv_neT (a := (2)) h10_2 rfl; have q2 := lv_neT (a := (3)) h10_3 rfl; have q3 := lv_neT (a := (4)) h10_4 rfl; have q4 := lv_neT (a := (5)) h10_5 rfl; have q5 := lv_neT (a := (6)) h10_6 rfl; omega) dX4_asksNow_10 (by decide) ?_
  refine z_lconst C (v := 1) dX4_asksNow_116 rfl ?_
  refine z_ldc2 C dX4_asksNow_117 q_X4_35 ?_
  refine z_lload_n C 0 dX4_asksNow_120 rfl ?_
  refine z_mmin_long C dX4_asksNow_121 q_X4_37 ⟨by decide, Nat.le_of_ble_eq_true rfl⟩ ?_
  refine z_mmax_long C dX4_asksNow_124 q_X4_43 ⟨by decide, Nat.le_of_ble_eq_true rfl⟩ ?_
  refine z_l2i C dX4_asksNow_127 ?_
  refine z_iret C0 dX4_asksNow_128 ?_
  exact ⟨by simp [asked, askL, askM, *], rfl⟩
theorem cf_X4_takesStampsOnly (l : Launch) (E : zE) (F : zF) (G : zGf) {gi j : Nat} (hg : gi < 4) (hj : j < 6) : XM l E yX4_takesStampsOnly cX4_takesStampsOnly 1 (some .boolean) 1 [.ref (xadr E.2.2.1 (6, gi, j))] (sG F gi G) (fun v F2 => v = some (.int (bI (isSt (G.1.2.1 j)))) ∧ F2 = sG F gi G) := by
  have h := c_X4_takesStampsOnly l E (sG F gi G) hg hj
  rw [sG_at] at h
  exact h
theorem cf_X4_asksNow (l : Launch) (E : zE) (F : zF) (G : zGf) {gi j : Nat} (hg : gi < 4) (hj : j < 6) : XM l E yX4_asksNow cX4_asksNow 3 (some .int) 1 [.ref (xadr E.2.2.1 (6, gi, j))] (sG F gi G) (fun v F2 => v = some (.int (askS G.1 j)) ∧ F2 = sG F gi G) := by
  have h := c_X4_asksNow l E (sG F gi G) hg hj
  rw [sG_at] at h
  exact h
set_option maxRecDepth 100000 in
set_option maxHeartbeats 4000000 in
theorem c_X1_canBuy (l : Launch) (E : zE) (F : zF) (G : zGf) {gi : Nat} (hg : gi < 4) {c j : Nat} (hc : c < 6) (hj : j < 6) (a : Int32) : XM l E yX1_canBuy cX1_canBuy 4 (some .boolean) 2 [.ref (xadr E.2.2.1 (3, gi, 0)), .ref (xadr E.2.2.1 (7, gi, c)), .int (nI j), .int (a)] (sG F gi G) (fun v F2 => v = some (.int (bI (canBuy G.1 c j a))) ∧ F2 = sG F gi G) := by
  refine XM.mk kq_X1 (Nat.le_of_ble_eq_true rfl) (fun K s C0 => ?_)
  have C := C0.c
  refine z_aload_n C 1 dX1_canBuy_0 rfl ?_
  refine xg_7F (k := 5) C (by first | assumption | omega) (by first | assumption | omega) (by decide) kf_X1_80 dX1_canBuy_1 ?_
  refine z_iload_n C 2 dX1_canBuy_4 rfl ?_
  refine z_icmp_ne C 10 dX1_canBuy_5 (by decide) (fun h5 => ?_) (fun h5 => ?_)
  · skip
    refine z_iload_n C 3 dX1_canBuy_10 rfl ?_
    refine z_aload_n C 0 dX1_canBuy_11 rfl ?_
    refine xg_3s C (by first | assumption | omega) kf_X1_11 dX1_canBuy_12 ?_
    refine z_iload_n C 2 dX1_canBuy_15 rfl ?_
    refine xa_4 C (by first | assumption | omega) j rfl (by first | assumption | omega) dX1_canBuy_16 ?_
    refine z_callV0 C (cf_X4_takesStampsOnly l E _ _ (by first | assumption | omega) (by first | assumption | omega)) ⟨(by first | assumption | omega), (by first | assumption | omega)⟩ rfl rfl q_X1_83 ⟨by decide, by decide⟩ (Nat.le_of_ble_eq_true rfl) dX1_canBuy_17 (fun v F9 hp => ?_)
    obtain ⟨rfl, rfl⟩ := hp
    refine z_if_eq C 30 dX1_canBuy_20 (by decide) (fun h20 => ?_) (fun h20 => ?_)
    · skip
      have h20 := bI_0 h20
      refine z_aload_n C 1 dX1_canBuy_30 rfl ?_
      refine xg_7F (k := 1) C (by first | assumption | omega) (by first | assumption | omega) (by decide) kf_X1_66 dX1_canBuy_31 ?_
      refine z_aload_n C 1 dX1_canBuy_34 rfl ?_
      refine xg_7F (k := 2) C (by first | assumption | omega) (by first | assumption | omega) (by decide) kf_X1_87 dX1_canBuy_35 ?_
      refine z_iadd C dX1_canBuy_38 ?_
      refine z_icmp_gt C 46 dX1_canBuy_39 (by decide) (fun h39 => ?_) (fun h39 => ?_)
      · skip
        refine z_iconst C (v := 0) dX1_canBuy_46 rfl ?_
        refine z_zret C0 rfl dX1_canBuy_47 ?_
        exact ⟨by simp [canBuy, bI, *], rfl⟩
      · skip
        refine z_iconst C (v := 1) dX1_canBuy_42 rfl ?_
        refine z_goto C 47 dX1_canBuy_43 (by decide) ?_
        refine z_zret C0 rfl dX1_canBuy_47 ?_
        exact ⟨by simp [canBuy, bI, *], rfl⟩
    · skip
      have h20 := bI_1 h20
      refine z_aload_n C 1 dX1_canBuy_23 rfl ?_
      refine xg_7F (k := 2) C (by first | assumption | omega) (by first | assumption | omega) (by decide) kf_X1_87 dX1_canBuy_24 ?_
      refine z_goto C 39 dX1_canBuy_27 (by decide) ?_
      refine z_icmp_gt C 46 dX1_canBuy_39 (by decide) (fun h39 => ?_) (fun h39 => ?_)
      · skip
        refine z_iconst C (v := 0) dX1_canBuy_46 rfl ?_
        refine z_zret C0 rfl dX1_canBuy_47 ?_
        exact ⟨by simp [canBuy, bI, *], rfl⟩
      · skip
        refine z_iconst C (v := 1) dX1_canBuy_42 rfl ?_
        refine z_goto C 47 dX1_canBuy_43 (by decide) ?_
        refine z_zret C0 rfl dX1_canBuy_47 ?_
        exact ⟨by simp [canBuy, bI, *], rfl⟩
  · skip
    refine z_iconst C (v := 0) dX1_canBuy_8 rfl ?_
    refine z_zret C0 rfl dX1_canBuy_9 ?_
    exact ⟨by simp [canBuy, bI, *], rfl⟩
