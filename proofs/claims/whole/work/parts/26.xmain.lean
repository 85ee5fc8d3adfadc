/-! the class: its calls -/
set_option maxRecDepth 100000 in
set_option maxHeartbeats 4000000 in
theorem c_X6_refuse (l : Launch) (E : zE) (F : zF) (x : Int32) : XM l E yX6_refuse cX6_refuse 3 (some .int) 1 [.ref (xadr E.2.2.1 (0, 0, 0)), .int (x)] (F) (fun v F2 => v = some (.int x) ∧ F2 = rfu F x) := by
  refine XM.mk kq_X6 (Nat.le_of_ble_eq_true rfl) (fun K s C0 => ?_)
  have C := C0.c
  refine z_iload_n C 1 dX6_refuse_0 rfl ?_
  refine z_ineg C dX6_refuse_1 ?_
  refine z_bipush C (v := 10) dX6_refuse_2 rfl ?_
  refine z_irem C dX6_refuse_4 (by decide) ?_
  refine z_istore_n (i := 2) C dX6_refuse_5 rfl (by decide) ?_
  refine z_eq (L2 := [(2, .int (refK x)), (0, .ref (xadr E.2.2.1 (0, 0, 0))), (1, .int x)]) rfl rfl rfl rfl ?_
  refine z_iload_n C 0 dX6_refuse_6 rfl ?_
  refine z_if_le C 29 dX6_refuse_7 (by decide) (fun h7 => ?_) (fun h7 => ?_)
  · skip
    refine z_iload_n C 2 dX6_refuse_29 rfl ?_
    refine z_iret C0 dX6_refuse_30 ?_
    refine ⟨rfl, ?_⟩
    unfold rfu
    rw [if_neg (fun z => absurd z.1 (Int32.not_lt.mpr h7))]
  · skip
    refine z_iload_n C 0 dX6_refuse_10 rfl ?_
    refine z_aload_n C 1 dX6_refuse_11 rfl ?_
    refine xg_0_1 C kf_X6_15 dX6_refuse_12 ?_
    refine z_alen (key := (2, 0, 0)) (v := nI 8) C 0 ⟨by decide, rfl, rfl⟩ rfl rfl rfl dX6_refuse_15 ?_
    refine z_icmp_ge C 29 dX6_refuse_16 (by decide) (fun h16 => ?_) (fun h16 => ?_)
    · skip
      refine z_iload_n C 2 dX6_refuse_29 rfl ?_
      refine z_iret C0 dX6_refuse_30 ?_
      refine ⟨rfl, ?_⟩
      unfold rfu
      rw [if_neg (fun z => absurd z.2 (Int32.not_lt.mpr h16))]
    · skip
      obtain ⟨q, hq, eq⟩ := i_rng (n := 8) (x := refK x) (Int32.not_lt.mpr (Int32.le_of_lt (Int32.not_le.mp h7))) (Int32.not_le.mp h16) (by omega)
      refine z_aload_n C 1 dX6_refuse_19 rfl ?_
      refine xg_0_1 C kf_X6_15 dX6_refuse_20 ?_
      refine z_iload_n C 0 dX6_refuse_23 rfl ?_
      refine z_dup2 C dX6_refuse_24 rfl rfl ?_
      refine xl_2 C q eq hq dX6_refuse_25 ?_
      refine z_iconst C (v := 1) dX6_refuse_26 rfl ?_
      refine z_iadd C dX6_refuse_27 ?_
      refine xs_2 C q eq hq dX6_refuse_28 ?_
      refine z_iload_n C 2 dX6_refuse_29 rfl ?_
      refine z_iret C0 dX6_refuse_30 ?_
      refine ⟨rfl, ?_⟩
      unfold rfu
      rw [if_pos ⟨Int32.not_le.mp h7, Int32.not_le.mp h16⟩, eq, nI_clamp (by omega)]
set_option maxRecDepth 100000 in
set_option maxHeartbeats 4000000 in
theorem c_X6_rowTrouble (l : Launch) (E : zE) (F : zF) (s : Int32) : XM l E yX6_rowTrouble cX6_rowTrouble 2 (some .int) 2 [.ref (xadr E.2.2.1 (0, 0, 0)), .int (s)] (F) (fun v F2 => v = some (.int (rTr F s)) ∧ F2 = F) := by
  refine XM.mk kq_X6 (Nat.le_of_ble_eq_true rfl) (fun K s C0 => ?_)
  have C := C0.c
  refine z_iload_n C 1 dX6_rowTrouble_0 rfl ?_
  refine z_callS1 C (c_X6_isShelf l E _ _) q_X6_47 ⟨by decide, by decide⟩ (Nat.le_of_ble_eq_true rfl) dX6_rowTrouble_1 (fun v F9 hp => ?_)
  obtain ⟨rfl, e9⟩ := hp
  rw [e9]
  clear e9 F9
  refine z_if_ne C 9 dX6_rowTrouble_4 (by decide) (fun h4 => ?_) (fun h4 => ?_)
  · skip
    have h4 := bI_1 h4
    obtain ⟨j, hj, rfl⟩ := inR_of (n := 8) h4 (by omega)
    refine z_aload_n C 0 dX6_rowTrouble_9 rfl ?_
    refine xg_0_0 C kf_X6_11 dX6_rowTrouble_10 ?_
    refine z_iload_n C 1 dX6_rowTrouble_13 rfl ?_
    refine xa_1 C j rfl (by first | assumption | omega) dX6_rowTrouble_14 ?_
    refine z_callV0 C (c_X3_hasShop l E _ (by first | assumption | omega)) ⟨(by first | assumption | omega), rfl⟩ rfl rfl q_X6_70 ⟨by decide, by decide⟩ (Nat.le_of_ble_eq_true rfl) dX6_rowTrouble_15 (fun v F9 hp => ?_)
    obtain ⟨rfl, e9⟩ := hp
    rw [e9]
    clear e9 F9
    refine z_if_eq C 24 dX6_rowTrouble_18 (by decide) (fun h18 => ?_) (fun h18 => ?_)
    · skip
      have h18 := bI_0 h18
      refine z_aload_n C 0 dX6_rowTrouble_24 rfl ?_
      refine xg_0_0 C kf_X6_11 dX6_rowTrouble_25 ?_
      refine z_iload_n C 1 dX6_rowTrouble_28 rfl ?_
      refine xa_1 C j rfl (by first | assumption | omega) dX6_rowTrouble_29 ?_
      refine z_callV0 C (c_X3_hasRow l E _ (by first | assumption | omega)) ⟨(by first | assumption | omega), rfl⟩ rfl rfl q_X6_74 ⟨by decide, by decide⟩ (Nat.le_of_ble_eq_true rfl) dX6_rowTrouble_30 (fun v F9 hp => ?_)
      obtain ⟨rfl, e9⟩ := hp
      rw [e9]
      clear e9 F9
      refine z_if_eq C 40 dX6_rowTrouble_33 (by decide) (fun h33 => ?_) (fun h33 => ?_)
      · skip
        have h33 := bI_0 h33
        refine z_bipush C (v := (-3)) dX6_rowTrouble_40 rfl ?_
        refine z_iret C0 dX6_rowTrouble_42 ?_
        refine ⟨?_, rfl⟩
        unfold rTr sTr
        rw [if_pos h4, nI_clamp (by omega)]
        simp [h18, h33]
      · skip
        have h33 := bI_1 h33
        refine z_iconst C (v := 0) dX6_rowTrouble_36 rfl ?_
        refine z_goto C 42 dX6_rowTrouble_37 (by decide) ?_
        refine z_iret C0 dX6_rowTrouble_42 ?_
        refine ⟨?_, rfl⟩
        unfold rTr sTr
        rw [if_pos h4, nI_clamp (by omega)]
        simp [h18, h33]
    · skip
      have h18 := bI_1 h18
      refine z_bipush C (v := (-2)) dX6_rowTrouble_21 rfl ?_
      refine z_iret C0 dX6_rowTrouble_23 ?_
      refine ⟨?_, rfl⟩
      unfold rTr sTr
      rw [if_pos h4, nI_clamp (by omega)]
      simp [h18]
  · skip
    have h4 := bI_0 h4
    refine z_iconst C (v := (-1)) dX6_rowTrouble_7 rfl ?_
    refine z_iret C0 dX6_rowTrouble_8 ?_
    exact ⟨by simp [rTr, h4], rfl⟩
set_option maxRecDepth 100000 in
set_option maxHeartbeats 4000000 in
theorem c_X6_toldTrouble (l : Launch) (E : zE) (F : zF) (s n : Int32) : XM l E yX6_toldTrouble cX6_toldTrouble 4 (some .int) 3 [.ref (xadr E.2.2.1 (0, 0, 0)), .int (s), .int (n)] (F) (fun v F2 => v = some (.int (tTr F s n)) ∧ F2 = F) := by
  refine XM.mk kq_X6 (Nat.le_of_ble_eq_true rfl) (fun K s C0 => ?_)
  have C := C0.c
  refine z_aload_n C 0 dX6_toldTrouble_0 rfl ?_
  refine z_iload_n C 1 dX6_toldTrouble_1 rfl ?_
  refine z_callV1 C (c_X6_rowTrouble l E _ _) ⟨by decide, rfl, rfl⟩ rfl rfl q_X6_59 ⟨by decide, by decide⟩ (Nat.le_of_ble_eq_true rfl) dX6_toldTrouble_2 (fun v F9 hp => ?_)
  obtain ⟨rfl, e9⟩ := hp
  rw [e9]
  clear e9 F9
  refine z_istore_n (i := 3) C dX6_toldTrouble_5 rfl (by decide) ?_
  refine z_iload_n C 0 dX6_toldTrouble_6 rfl ?_
  refine z_if_eq C 12 dX6_toldTrouble_7 (by decide) (fun h7 => ?_) (fun h7 => ?_)
  · skip
    obtain ⟨j, hj, rfl⟩ := rTr_in h7
    refine z_iload_n C 3 dX6_toldTrouble_12 rfl ?_
    refine z_if_ge C 19 dX6_toldTrouble_13 (by decide) (fun h13 => ?_) (fun h13 => ?_)
    · skip
      refine z_iload_n C 3 dX6_toldTrouble_19 rfl ?_
      refine z_aload_n C 1 dX6_toldTrouble_20 rfl ?_
      refine xg_0_0 C kf_X6_11 dX6_toldTrouble_21 ?_
      refine z_iload_n C 2 dX6_toldTrouble_24 rfl ?_
      refine xa_1 C j rfl (by first | assumption | omega) dX6_toldTrouble_25 ?_
      refine xg_12 (k := 1) C (by first | assumption | omega) (by decide) kf_X6_62 dX6_toldTrouble_26 ?_
      refine z_icmp_le C 37 dX6_toldTrouble_29 (by decide) (fun h29 => ?_) (fun h29 => ?_)
      · skip
        refine z_iconst C (v := 0) dX6_toldTrouble_37 rfl ?_
        refine z_iret C0 dX6_toldTrouble_38 ?_
        refine ⟨?_, rfl⟩
        unfold tTr
        rw [if_pos h7, if_neg (Int32.not_lt.mpr h13), nI_clamp (by omega)]
        rw [if_neg (Int32.not_lt.mpr h29)]
      · skip
        refine z_bipush C (v := (-5)) dX6_toldTrouble_32 rfl ?_
        refine z_goto C 38 dX6_toldTrouble_34 (by decide) ?_
        refine z_iret C0 dX6_toldTrouble_38 ?_
        refine ⟨?_, rfl⟩
        unfold tTr
        rw [if_pos h7, if_neg (Int32.not_lt.mpr h13), nI_clamp (by omega)]
        rw [if_pos (Int32.not_le.mp h29)]
    · skip
      refine z_bipush C (v := (-4)) dX6_toldTrouble_16 rfl ?_
      refine z_iret C0 dX6_toldTrouble_18 ?_
      refine ⟨?_, rfl⟩
      unfold tTr
      rw [if_pos h7, if_pos (Int32.not_le.mp h13)]
  · skip
    refine z_iload_n C 0 dX6_toldTrouble_10 rfl ?_
    refine z_iret C0 dX6_toldTrouble_11 ?_
    refine ⟨?_, rfl⟩
    unfold tTr
    rw [if_neg h7]
set_option maxRecDepth 100000 in
set_option maxHeartbeats 4000000 in
theorem c_X6_row (l : Launch) (E : zE) (F : zF) (s o n : Int32) : XM l E yX6_row cX6_row 4 (some .int) 3 [.ref (xadr E.2.2.1 (0, 0, 0)), .int (s), .int (o), .int (n)] (F) (xpo F (kRow s o n) 1 (fun F2 => F2 = xLay F s.toNatClampNeg o n)) := by
  refine XM.mk kq_X6 (Nat.le_of_ble_eq_true rfl) (fun K s C0 => ?_)
  have C := C0.c
  refine z_iload_n C 1 dX6_row_0 rfl ?_
  refine z_callS1 C (c_X6_isShelf l E _ _) q_X6_47 ⟨by decide, by decide⟩ (Nat.le_of_ble_eq_true rfl) dX6_row_1 (fun v F9 hp => ?_)
  obtain ⟨rfl, e9⟩ := hp
  rw [e9]
  clear e9 F9
  refine z_if_ne C 13 dX6_row_4 (by decide) (fun h4 => ?_) (fun h4 => ?_)
  · skip
    have h4 := bI_1 h4
    refine z_iload_n C 3 dX6_row_13 rfl ?_
    refine z_if_ge C 24 dX6_row_14 (by decide) (fun h14 => ?_) (fun h14 => ?_)
    · skip
      refine z_iload_n C 2 dX6_row_24 rfl ?_
      refine z_if_lt C 33 dX6_row_25 (by decide) (fun h25 => ?_) (fun h25 => ?_)
      · skip
        refine z_aload_n C 0 dX6_row_33 rfl ?_
        refine z_bipush C (v := (-6)) dX6_row_34 rfl ?_
        refine z_callV1 C (c_X6_refuse l E _ _) ⟨by decide, rfl, rfl⟩ rfl rfl q_X6_51 ⟨by decide, by decide⟩ (Nat.le_of_ble_eq_true rfl) dX6_row_36 (fun v F9 hp => ?_)
        obtain ⟨rfl, e9⟩ := hp
        rw [e9]
        clear e9 F9
        refine z_iret C0 dX6_row_39 ?_
        exact xpo.ref (by simp [kRow, inR_f1 h25, h4, h14, Int32.not_lt.mpr h14, h25, Int32.not_le.mpr h25]) (by decide)
      · skip
        refine z_iload_n C 2 dX6_row_28 rfl ?_
        refine z_iconst C (v := 4) dX6_row_29 rfl ?_
        refine z_icmp_lt C 40 dX6_row_30 (by decide) (fun h30 => ?_) (fun h30 => ?_)
        · skip
          refine z_iload_n C 3 dX6_row_40 rfl ?_
          refine z_sipush C (v := 160) dX6_row_41 rfl ?_
          refine z_icmp_le C 54 dX6_row_44 (by decide) (fun h44 => ?_) (fun h44 => ?_)
          · skip
            obtain ⟨j, hj, rfl⟩ := inR_of (n := 8) h4 (by omega)
            refine z_aload_n C 0 dX6_row_54 rfl ?_
            refine xg_0_0 C kf_X6_11 dX6_row_55 ?_
            refine z_iload_n C 1 dX6_row_58 rfl ?_
            refine xa_1 C j rfl (by first | assumption | omega) dX6_row_59 ?_
            refine z_iload_n C 2 dX6_row_60 rfl ?_
            refine z_iload_n C 3 dX6_row_61 rfl ?_
            refine z_callV2 C (c_X3_layRow l E _ (by first | assumption | omega) _ _) ⟨(by first | assumption | omega), rfl⟩ rfl rfl q_X6_55 ⟨by decide, by decide⟩ (Nat.le_of_ble_eq_true rfl) dX6_row_62 (fun v F9 hp => ?_)
            obtain ⟨rfl, e9⟩ := hp
            rw [e9]
            clear e9 F9
            refine z_iconst C (v := 1) dX6_row_65 rfl ?_
            refine z_iret C0 dX6_row_66 ?_
            exact xpo.ok (by simp [kRow, inR_t h25 (h30), h4, h14, Int32.not_lt.mpr h14, h25, Int32.not_lt.mp h25, h30, Int32.not_le.mpr h30, h44, Int32.not_lt.mpr h44]) rfl (by rw [nI_clamp (by omega)]; rfl)
          · skip
            refine z_aload_n C 0 dX6_row_47 rfl ?_
            refine z_bipush C (v := (-7)) dX6_row_48 rfl ?_
            refine z_callV1 C (c_X6_refuse l E _ _) ⟨by decide, rfl, rfl⟩ rfl rfl q_X6_51 ⟨by decide, by decide⟩ (Nat.le_of_ble_eq_true rfl) dX6_row_50 (fun v F9 hp => ?_)
            obtain ⟨rfl, e9⟩ := hp
            rw [e9]
            clear e9 F9
            refine z_iret C0 dX6_row_53 ?_
            exact xpo.ref (by simp [kRow, inR_t h25 (h30), h4, h14, Int32.not_lt.mpr h14, h25, Int32.not_lt.mp h25, h30, Int32.not_le.mpr h30, h44, Int32.not_le.mp h44]) (by decide)
        · skip
          refine z_aload_n C 0 dX6_row_33 rfl ?_
          refine z_bipush C (v := (-6)) dX6_row_34 rfl ?_
          refine z_callV1 C (c_X6_refuse l E _ _) ⟨by decide, rfl, rfl⟩ rfl rfl q_X6_51 ⟨by decide, by decide⟩ (Nat.le_of_ble_eq_true rfl) dX6_row_36 (fun v F9 hp => ?_)
          obtain ⟨rfl, e9⟩ := hp
          rw [e9]
          clear e9 F9
          refine z_iret C0 dX6_row_39 ?_
          exact xpo.ref (by simp [kRow, inR_f2 (Int32.not_lt.mp h30), h4, h14, Int32.not_lt.mpr h14, h25, Int32.not_lt.mp h25, h30, Int32.not_lt.mp h30]) (by decide)
    · skip
      refine z_aload_n C 0 dX6_row_17 rfl ?_
      refine z_bipush C (v := (-4)) dX6_row_18 rfl ?_
      refine z_callV1 C (c_X6_refuse l E _ _) ⟨by decide, rfl, rfl⟩ rfl rfl q_X6_51 ⟨by decide, by decide⟩ (Nat.le_of_ble_eq_true rfl) dX6_row_20 (fun v F9 hp => ?_)
      obtain ⟨rfl, e9⟩ := hp
      rw [e9]
      clear e9 F9
      refine z_iret C0 dX6_row_23 ?_
      exact xpo.ref (by simp [kRow, h4, h14, Int32.not_le.mp h14]) (by decide)
  · skip
    have h4 := bI_0 h4
    refine z_aload_n C 0 dX6_row_7 rfl ?_
    refine z_iconst C (v := (-1)) dX6_row_8 rfl ?_
    refine z_callV1 C (c_X6_refuse l E _ _) ⟨by decide, rfl, rfl⟩ rfl rfl q_X6_51 ⟨by decide, by decide⟩ (Nat.le_of_ble_eq_true rfl) dX6_row_9 (fun v F9 hp => ?_)
    obtain ⟨rfl, e9⟩ := hp
    rw [e9]
    clear e9 F9
    refine z_iret C0 dX6_row_12 ?_
    exact xpo.ref (by simp [kRow, h4]) (by decide)
