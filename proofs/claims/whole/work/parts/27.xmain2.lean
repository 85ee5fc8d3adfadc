/-! the class: its calls, the next -/
def aElem (F : zF) (s i : Int32) : Int64 := if inR s 8 = true then (if hRow (F.2.1 s.toNatClampNeg 0) = true then (if inR i (F.2.1 s.toNatClampNeg 1) = true then F.2.2.1 s.toNatClampNeg i.toNatClampNeg else 0) else 0) else 0
theorem inR6 {w : Int32} (h0 : ¬ w = 0) (h1 : ¬ w = 1) (h2 : ¬ w = 2) (h3 : ¬ w = 3) (h4 : ¬ w = 4) (h5 : ¬ w = 5) : inR w 6 = false := by
  cases h : inR w 6 with
  | false => rfl
  | true =>
    obtain ⟨j, hj, rfl⟩ := inR_of (n := 6) h (by omega)
    have hj2 : j = 0 ∨ j = 1 ∨ j = 2 ∨ j = 3 ∨ j = 4 ∨ j = 5 := by omega
    rcases hj2 with rfl | rfl | rfl | rfl | rfl | rfl
    · exact absurd rfl h0
    · exact absurd rfl h1
    · exact absurd rfl h2
    · exact absurd rfl h3
    · exact absurd rfl h4
    · exact absurd rfl h5
set_option maxRecDepth 100000 in
set_option maxHeartbeats 4000000 in
theorem c_X6_set (l : Launch) (E : zE) (F : zF) (hI : XI F) (s i : Int32) (v : Int64) : XM l E yX6_set cX6_set 6 (some .int) 3 [.ref (xadr E.2.2.1 (0, 0, 0)), .int (s), .int (i), .long (v)] (F) (xpo F (kSet (rTr F s) (F.2.1 s.toNatClampNeg 1) i) 1 (fun F2 => F2 = sE F s.toNatClampNeg (vp_updL (F.2.2.1 s.toNatClampNeg) i.toNatClampNeg (putV (F.2.1 s.toNatClampNeg 0) v)))) := by
  refine XM.mk kq_X6 (Nat.le_of_ble_eq_true rfl) (fun K s C0 => ?_)
  have C := C0.c
  obtain ⟨hz, hw, hsh⟩ := id hI
  obtain ⟨⟨eS, lS⟩, ⟨eC, lC⟩⟩ := id hz
  refine z_aload_n C 0 dX6_set_0 rfl ?_
  refine z_iload_n C 1 dX6_set_1 rfl ?_
  refine z_callV1 C (c_X6_rowTrouble l E _ _) ⟨by decide, rfl, rfl⟩ rfl rfl q_X6_59 ⟨by decide, by decide⟩ (Nat.le_of_ble_eq_true rfl) dX6_set_2 (fun v F9 hp => ?_)
  obtain ⟨rfl, e9⟩ := hp
  rw [e9]
  clear e9 F9
  refine z_istore C dX6_set_5 (by decide) ?_
  refine z_iload C 0 dX6_set_7 rfl ?_
  refine z_if_eq C 19 dX6_set_9 (by decide) (fun h9 => ?_) (fun h9 => ?_)
  · skip
    obtain ⟨j, hj, rfl⟩ := rTr_in h9
    obtain ⟨⟨len, hlen, el⟩, hho⟩ := hsh j hj
    obtain ⟨o, ho, eo⟩ := rTr_0 hj (hsh j hj) lS h9
    have ej : (nI j).toNatClampNeg = j := nI_clamp (by omega)
    refine z_iload_n C 3 dX6_set_19 rfl ?_
    refine z_if_lt C 36 dX6_set_20 (by decide) (fun h20 => ?_) (fun h20 => ?_)
    · skip
      refine z_aload_n C 1 dX6_set_36 rfl ?_
      refine z_bipush C (v := (-5)) dX6_set_37 rfl ?_
      refine z_callV1 C (c_X6_refuse l E _ _) ⟨by decide, rfl, rfl⟩ rfl rfl q_X6_51 ⟨by decide, by decide⟩ (Nat.le_of_ble_eq_true rfl) dX6_set_39 (fun v F9 hp => ?_)
      obtain ⟨rfl, e9⟩ := hp
      rw [e9]
      clear e9 F9
      refine z_iret C0 dX6_set_42 ?_
      exact xpo.ref (by simp [kSet, ej, inR_f1 h20, h9, h20, Int32.not_le.mpr h20]) (by decide)
    · skip
      refine z_iload_n C 3 dX6_set_23 rfl ?_
      refine z_aload_n C 1 dX6_set_24 rfl ?_
      refine xg_0_0 C kf_X6_11 dX6_set_25 ?_
      refine z_iload_n C 2 dX6_set_28 rfl ?_
      refine xa_1 C j rfl (by first | assumption | omega) dX6_set_29 ?_
      refine xg_12 (k := 1) C (by first | assumption | omega) (by decide) kf_X6_62 dX6_set_30 ?_
      refine z_icmp_lt C 43 dX6_set_33 (by decide) (fun h33 => ?_) (fun h33 => ?_)
      · skip
        obtain ⟨q, hq, rfl⟩ := i_rng (n := len) h20 (by rw [← el]; exact h33) (by omega)
        have hq2 : q < 160 := by omega
        have hpr := put_row ho eo
        refine z_aload_n C 1 dX6_set_43 rfl ?_
        refine xg_0_0 C kf_X6_11 dX6_set_44 ?_
        refine z_iload_n C 2 dX6_set_47 rfl ?_
        refine xa_1 C j rfl (by first | assumption | omega) dX6_set_48 ?_
        refine z_iload_n C 3 dX6_set_49 rfl ?_
        refine z_lload_n C 4 dX6_set_50 rfl ?_
        refine z_callV2 C (c_X3_put l E _ (by first | assumption | omega) (by first | assumption | omega) (by assumption) (by assumption) _) ⟨(by first | assumption | omega), rfl⟩ rfl rfl q_X6_66 ⟨by decide, by decide⟩ (Nat.le_of_ble_eq_true rfl) dX6_set_51 (fun v F9 hp => ?_)
        obtain ⟨rfl, e9⟩ := hp
        rw [e9]
        clear e9 F9
        refine z_iconst C (v := 1) dX6_set_54 rfl ?_
        refine z_iret C0 dX6_set_55 ?_
        exact xpo.ok (by simp [kSet, ej, inR_t h20 h33, h9]) rfl (by rw [ej, nI_clamp (by omega)])
      · skip
        refine z_aload_n C 1 dX6_set_36 rfl ?_
        refine z_bipush C (v := (-5)) dX6_set_37 rfl ?_
        refine z_callV1 C (c_X6_refuse l E _ _) ⟨by decide, rfl, rfl⟩ rfl rfl q_X6_51 ⟨by decide, by decide⟩ (Nat.le_of_ble_eq_true rfl) dX6_set_39 (fun v F9 hp => ?_)
        obtain ⟨rfl, e9⟩ := hp
        rw [e9]
        clear e9 F9
        refine z_iret C0 dX6_set_42 ?_
        exact xpo.ref (by simp [kSet, ej, inR_f2 (Int32.not_lt.mp h33), h9, h20, Int32.not_lt.mp h20, h33, Int32.not_lt.mp h33]) (by decide)
  · skip
    refine z_aload_n C 1 dX6_set_12 rfl ?_
    refine z_iload C 0 dX6_set_13 rfl ?_
    refine z_callV1 C (c_X6_refuse l E _ _) ⟨by decide, rfl, rfl⟩ rfl rfl q_X6_51 ⟨by decide, by decide⟩ (Nat.le_of_ble_eq_true rfl) dX6_set_15 (fun v F9 hp => ?_)
    obtain ⟨rfl, e9⟩ := hp
    rw [e9]
    clear e9 F9
    refine z_iret C0 dX6_set_18 ?_
    exact xpo.ref (by simp [kSet, h9]) h9
set_option maxRecDepth 100000 in
set_option maxHeartbeats 4000000 in
theorem c_X6_element (l : Launch) (E : zE) (F : zF) (hI : XI F) (s i : Int32) : XM l E yX6_element cX6_element 3 (some .long) 3 [.ref (xadr E.2.2.1 (0, 0, 0)), .int (s), .int (i)] (F) (fun v F2 => v = some (.long (aElem F s i)) ∧ F2 = F) := by
  refine XM.mk kq_X6 (Nat.le_of_ble_eq_true rfl) (fun K s C0 => ?_)
  have C := C0.c
  obtain ⟨hz, hw, hsh⟩ := id hI
  obtain ⟨⟨eS, lS⟩, ⟨eC, lC⟩⟩ := id hz
  refine z_iload_n C 1 dX6_element_0 rfl ?_
  refine z_callS1 C (c_X6_isShelf l E _ _) q_X6_47 ⟨by decide, by decide⟩ (Nat.le_of_ble_eq_true rfl) dX6_element_1 (fun v F9 hp => ?_)
  obtain ⟨rfl, e9⟩ := hp
  rw [e9]
  clear e9 F9
  refine z_if_eq C 36 dX6_element_4 (by decide) (fun h4 => ?_) (fun h4 => ?_)
  · skip
    have h4 := bI_0 h4
    refine z_lconst C (v := 0) dX6_element_36 rfl ?_
    refine z_lret C0 dX6_element_37 ?_
    exact ⟨by simp [aElem, h4], rfl⟩
  · skip
    have h4 := bI_1 h4
    obtain ⟨j, hj, rfl⟩ := inR_of (n := 8) h4 (by omega)
    obtain ⟨⟨len, hlen, el⟩, hho⟩ := hsh j hj
    have ej : (nI j).toNatClampNeg = j := nI_clamp (by omega)
    refine z_aload_n C 0 dX6_element_7 rfl ?_
    refine xg_0_0 C kf_X6_11 dX6_element_8 ?_
    refine z_iload_n C 1 dX6_element_11 rfl ?_
    refine xa_1 C j rfl (by first | assumption | omega) dX6_element_12 ?_
    refine z_callV0 C (c_X3_hasRow l E _ (by first | assumption | omega)) ⟨(by first | assumption | omega), rfl⟩ rfl rfl q_X6_74 ⟨by decide, by decide⟩ (Nat.le_of_ble_eq_true rfl) dX6_element_13 (fun v F9 hp => ?_)
    obtain ⟨rfl, e9⟩ := hp
    rw [e9]
    clear e9 F9
    refine z_if_eq C 36 dX6_element_16 (by decide) (fun h16 => ?_) (fun h16 => ?_)
    · skip
      have h16 := bI_0 h16
      refine z_lconst C (v := 0) dX6_element_36 rfl ?_
      refine z_lret C0 dX6_element_37 ?_
      exact ⟨by simp [aElem, ej, h4, h16], rfl⟩
    · skip
      have h16 := bI_1 h16
      refine z_iload_n C 2 dX6_element_19 rfl ?_
      refine z_if_lt C 36 dX6_element_20 (by decide) (fun h20 => ?_) (fun h20 => ?_)
      · skip
        refine z_lconst C (v := 0) dX6_element_36 rfl ?_
        refine z_lret C0 dX6_element_37 ?_
        exact ⟨by simp [aElem, ej, inR_f1 h20, h4, h16, h20, Int32.not_le.mpr h20], rfl⟩
      · skip
        refine z_iload_n C 2 dX6_element_23 rfl ?_
        refine z_aload_n C 0 dX6_element_24 rfl ?_
        refine xg_0_0 C kf_X6_11 dX6_element_25 ?_
        refine z_iload_n C 1 dX6_element_28 rfl ?_
        refine xa_1 C j rfl (by first | assumption | omega) dX6_element_29 ?_
        refine xg_12 (k := 1) C (by first | assumption | omega) (by decide) kf_X6_62 dX6_element_30 ?_
        refine z_icmp_lt C 38 dX6_element_33 (by decide) (fun h33 => ?_) (fun h33 => ?_)
        · skip
          obtain ⟨q, hq, rfl⟩ := i_rng (n := len) h20 (by rw [← el]; exact h33) (by omega)
          have hq2 : q < 160 := by omega
          refine z_aload_n C 0 dX6_element_38 rfl ?_
          refine xg_0_0 C kf_X6_11 dX6_element_39 ?_
          refine z_iload_n C 1 dX6_element_42 rfl ?_
          refine xa_1 C j rfl (by first | assumption | omega) dX6_element_43 ?_
          refine xg_12e C (by first | assumption | omega) kf_X6_84 dX6_element_44 ?_
          refine z_iload_n C 2 dX6_element_47 rfl ?_
          refine xl_13 C (by first | assumption | omega) q rfl (by first | assumption | omega) dX6_element_48 ?_
          refine z_lret C0 dX6_element_49 ?_
          exact ⟨by simp [aElem, ej, h4, h16, inR_t h20 h33, nI_clamp (show q < 2 ^ 31 by omega)], rfl⟩
        · skip
          refine z_lconst C (v := 0) dX6_element_36 rfl ?_
          refine z_lret C0 dX6_element_37 ?_
          exact ⟨by simp [aElem, ej, inR_f2 (Int32.not_lt.mp h33), h4, h16, h20, Int32.not_lt.mp h20, h33, Int32.not_lt.mp h33], rfl⟩
set_option maxRecDepth 100000 in
set_option maxHeartbeats 4000000 in
theorem c_X6_show (l : Launch) (E : zE) (F : zF) (hI : XI F) (s p : Int32) : XM l E yX6_show cX6_show 3 (some .int) 3 [.ref (xadr E.2.2.1 (0, 0, 0)), .int (s), .int (p)] (F) (xpo F (kShow (F.1 0).1 s p) (if p = -1 then 0 else 1) (fun F2 => F2 = sV (sV F s.toNatClampNeg 0 p) s.toNatClampNeg 1 0)) := by
  refine XM.mk kq_X6 (Nat.le_of_ble_eq_true rfl) (fun K s C0 => ?_)
  have C := C0.c
  obtain ⟨hz, hw, hsh⟩ := id hI
  obtain ⟨⟨eS, lS⟩, ⟨eC, lC⟩⟩ := id hz
  refine z_iload_n C 1 dX6_show_0 rfl ?_
  refine z_callS1 C (c_X6_isShelf l E _ _) q_X6_47 ⟨by decide, by decide⟩ (Nat.le_of_ble_eq_true rfl) dX6_show_1 (fun v F9 hp => ?_)
  obtain ⟨rfl, e9⟩ := hp
  rw [e9]
  clear e9 F9
  refine z_if_eq C 20 dX6_show_4 (by decide) (fun h4 => ?_) (fun h4 => ?_)
  · skip
    have h4 := bI_0 h4
    refine z_aload_n C 0 dX6_show_20 rfl ?_
    refine z_iconst C (v := (-1)) dX6_show_21 rfl ?_
    refine z_callV1 C (c_X6_refuse l E _ _) ⟨by decide, rfl, rfl⟩ rfl rfl q_X6_51 ⟨by decide, by decide⟩ (Nat.le_of_ble_eq_true rfl) dX6_show_22 (fun v F9 hp => ?_)
    obtain ⟨rfl, e9⟩ := hp
    rw [e9]
    clear e9 F9
    refine z_iret C0 dX6_show_25 ?_
    exact xpo.ref (by simp [kShow, h4]) (by decide)
  · skip
    have h4 := bI_1 h4
    refine z_iload_n C 2 dX6_show_7 rfl ?_
    refine z_iconst C (v := (-1)) dX6_show_8 rfl ?_
    refine z_icmp_eq C 26 dX6_show_9 (by decide) (fun h9 => ?_) (fun h9 => ?_)
    · skip
      obtain ⟨j, hj, rfl⟩ := inR_of (n := 8) h4 (by omega)
      refine z_aload_n C 0 dX6_show_26 rfl ?_
      refine xg_0_0 C kf_X6_11 dX6_show_27 ?_
      refine z_iload_n C 1 dX6_show_30 rfl ?_
      refine xa_1 C j rfl (by first | assumption | omega) dX6_show_31 ?_
      refine z_iload_n C 2 dX6_show_32 rfl ?_
      refine z_callV1 C (c_X3_hold l E _ (by first | assumption | omega) _) ⟨(by first | assumption | omega), rfl⟩ rfl rfl q_X6_97 ⟨by decide, by decide⟩ (Nat.le_of_ble_eq_true rfl) dX6_show_33 (fun v F9 hp => ?_)
      obtain ⟨rfl, e9⟩ := hp
      rw [e9]
      clear e9 F9
      refine z_iload_n C 2 dX6_show_36 rfl ?_
      refine z_iconst C (v := (-1)) dX6_show_37 rfl ?_
      refine z_icmp_ne C 45 dX6_show_38 (by decide) (fun h38 => ?_) (fun h38 => ?_)
      · skip
        refine z_iconst C (v := 1) dX6_show_45 rfl ?_
        refine z_iret C0 dX6_show_46 ?_
        exact xpo.ok (by simp [kShow, h4, h9, h38]) (by simp [h38]) (by rw [nI_clamp (by omega)])
      · skip
        refine z_iconst C (v := 0) dX6_show_41 rfl ?_
        refine z_goto C 46 dX6_show_42 (by decide) ?_
        refine z_iret C0 dX6_show_46 ?_
        exact xpo.ok (by simp [kShow, h4, h9, h38]) (by simp [h38]) (by rw [nI_clamp (by omega)])
    · skip
      refine z_aload_n C 0 dX6_show_12 rfl ?_
      refine z_iload_n C 2 dX6_show_13 rfl ?_
      refine z_callV1 C (c_X6_isShop l E _ _) ⟨by decide, rfl, rfl⟩ rfl rfl q_X6_94 ⟨by decide, by decide⟩ (Nat.le_of_ble_eq_true rfl) dX6_show_14 (fun v F9 hp => ?_)
      obtain ⟨rfl, e9⟩ := hp
      rw [e9]
      clear e9 F9
      refine z_if_ne C 26 dX6_show_17 (by decide) (fun h17 => ?_) (fun h17 => ?_)
      · skip
        have h17 := bI_1 h17
        obtain ⟨j, hj, rfl⟩ := inR_of (n := 8) h4 (by omega)
        refine z_aload_n C 0 dX6_show_26 rfl ?_
        refine xg_0_0 C kf_X6_11 dX6_show_27 ?_
        refine z_iload_n C 1 dX6_show_30 rfl ?_
        refine xa_1 C j rfl (by first | assumption | omega) dX6_show_31 ?_
        refine z_iload_n C 2 dX6_show_32 rfl ?_
        refine z_callV1 C (c_X3_hold l E _ (by first | assumption | omega) _) ⟨(by first | assumption | omega), rfl⟩ rfl rfl q_X6_97 ⟨by decide, by decide⟩ (Nat.le_of_ble_eq_true rfl) dX6_show_33 (fun v F9 hp => ?_)
        obtain ⟨rfl, e9⟩ := hp
        rw [e9]
        clear e9 F9
        refine z_iload_n C 2 dX6_show_36 rfl ?_
        refine z_iconst C (v := (-1)) dX6_show_37 rfl ?_
        refine z_icmp_ne C 45 dX6_show_38 (by decide) (fun h38 => ?_) (fun h38 => ?_)
        · skip
          refine z_iconst C (v := 1) dX6_show_45 rfl ?_
          refine z_iret C0 dX6_show_46 ?_
          exact xpo.ok (by simp [kShow, h4, h9, h17, h38]) (by simp [h38]) (by rw [nI_clamp (by omega)])
        · skip
          refine z_iconst C (v := 0) dX6_show_41 rfl ?_
          refine z_goto C 46 dX6_show_42 (by decide) ?_
          refine z_iret C0 dX6_show_46 ?_
          exact xpo.ok (by simp [kShow, h4, h9, h17, h38]) (by simp [h38]) (by rw [nI_clamp (by omega)])
      · skip
        have h17 := bI_0 h17
        refine z_aload_n C 0 dX6_show_20 rfl ?_
        refine z_iconst C (v := (-1)) dX6_show_21 rfl ?_
        refine z_callV1 C (c_X6_refuse l E _ _) ⟨by decide, rfl, rfl⟩ rfl rfl q_X6_51 ⟨by decide, by decide⟩ (Nat.le_of_ble_eq_true rfl) dX6_show_22 (fun v F9 hp => ?_)
        obtain ⟨rfl, e9⟩ := hp
        rw [e9]
        clear e9 F9
        refine z_iret C0 dX6_show_25 ?_
        exact xpo.ref (by simp [kShow, h4, h9, h17]) (by decide)
set_option maxRecDepth 100000 in
set_option maxHeartbeats 4000000 in
theorem c_X6_holds (l : Launch) (E : zE) (F : zF) (hI : XI F) (s : Int32) : XM l E yX6_holds cX6_holds 2 (some .int) 2 [.ref (xadr E.2.2.1 (0, 0, 0)), .int (s)] (F) (fun v F2 => v = some (.int (if inR s 8 = true then F.2.1 s.toNatClampNeg 0 else -1)) ∧ F2 = F) := by
  refine XM.mk kq_X6 (Nat.le_of_ble_eq_true rfl) (fun K s C0 => ?_)
  have C := C0.c
  refine z_iload_n C 1 dX6_holds_0 rfl ?_
  refine z_callS1 C (c_X6_isShelf l E _ _) q_X6_47 ⟨by decide, by decide⟩ (Nat.le_of_ble_eq_true rfl) dX6_holds_1 (fun v F9 hp => ?_)
  obtain ⟨rfl, e9⟩ := hp
  rw [e9]
  clear e9 F9
  refine z_if_eq C 19 dX6_holds_4 (by decide) (fun h4 => ?_) (fun h4 => ?_)
  · skip
    have h4 := bI_0 h4
    refine z_iconst C (v := (-1)) dX6_holds_19 rfl ?_
    refine z_iret C0 dX6_holds_20 ?_
    exact ⟨by simp [h4], rfl⟩
  · skip
    have h4 := bI_1 h4
    obtain ⟨j, hj, rfl⟩ := inR_of (n := 8) h4 (by omega)
    refine z_aload_n C 0 dX6_holds_7 rfl ?_
    refine xg_0_0 C kf_X6_11 dX6_holds_8 ?_
    refine z_iload_n C 1 dX6_holds_11 rfl ?_
    refine xa_1 C j rfl (by first | assumption | omega) dX6_holds_12 ?_
    refine xg_12 (k := 0) C (by first | assumption | omega) (by decide) kf_X6_77 dX6_holds_13 ?_
    refine z_goto C 20 dX6_holds_16 (by decide) ?_
    refine z_iret C0 dX6_holds_20 ?_
    exact ⟨by rw [if_pos h4, nI_clamp (by omega)], rfl⟩
set_option maxRecDepth 100000 in
set_option maxHeartbeats 4000000 in
theorem c_X6_shop (l : Launch) (E : zE) (F : zF) (hI : XI F) (k a p : Int32) : XM l E yX6_shop cX6_shop 4 (some .int) 3 [.ref (xadr E.2.2.1 (0, 0, 0)), .int (k), .int (a), .int (p)] (F) (xpo F (kShop (F.1 0).1 k a p) ((F.1 0).1.1 0) (fun F2 => F2 = sG F 0 (addSh (F.1 0).1 k a p, (F.1 0).2))) := by
  refine XM.mk kq_X6 (Nat.le_of_ble_eq_true rfl) (fun K s C0 => ?_)
  have C := C0.c
  obtain ⟨hz, hw, hsh⟩ := id hI
  obtain ⟨⟨eS, lS⟩, ⟨eC, lC⟩⟩ := id hz
  refine z_iload_n C 1 dX6_shop_0 rfl ?_
  refine z_callS1 C (c_X6_isKind l E _ _) q_X6_101 ⟨by decide, by decide⟩ (Nat.le_of_ble_eq_true rfl) dX6_shop_1 (fun v F9 hp => ?_)
  obtain ⟨rfl, e9⟩ := hp
  rw [e9]
  clear e9 F9
  refine z_if_ne C 13 dX6_shop_4 (by decide) (fun h4 => ?_) (fun h4 => ?_)
  · skip
    have h4 := bI_1 h4
    refine z_iload_n C 2 dX6_shop_13 rfl ?_
    refine z_if_lt C 35 dX6_shop_14 (by decide) (fun h14 => ?_) (fun h14 => ?_)
    · skip
      refine z_aload_n C 0 dX6_shop_35 rfl ?_
      refine z_bipush C (v := (-6)) dX6_shop_36 rfl ?_
      refine z_callV1 C (c_X6_refuse l E _ _) ⟨by decide, rfl, rfl⟩ rfl rfl q_X6_51 ⟨by decide, by decide⟩ (Nat.le_of_ble_eq_true rfl) dX6_shop_38 (fun v F9 hp => ?_)
      obtain ⟨rfl, e9⟩ := hp
      rw [e9]
      clear e9 F9
      refine z_iret C0 dX6_shop_41 ?_
      exact xpo.ref (by simp [kShop, h4, h14, Int32.not_le.mpr h14]) (by decide)
    · skip
      refine z_iload_n C 2 dX6_shop_17 rfl ?_
      refine z_bipush C (v := 9) dX6_shop_18 rfl ?_
      refine z_icmp_gt C 35 dX6_shop_20 (by decide) (fun h20 => ?_) (fun h20 => ?_)
      · skip
        refine z_aload_n C 0 dX6_shop_35 rfl ?_
        refine z_bipush C (v := (-6)) dX6_shop_36 rfl ?_
        refine z_callV1 C (c_X6_refuse l E _ _) ⟨by decide, rfl, rfl⟩ rfl rfl q_X6_51 ⟨by decide, by decide⟩ (Nat.le_of_ble_eq_true rfl) dX6_shop_38 (fun v F9 hp => ?_)
        obtain ⟨rfl, e9⟩ := hp
        rw [e9]
        clear e9 F9
        refine z_iret C0 dX6_shop_41 ?_
        exact xpo.ref (by simp [kShop, h4, h14, Int32.not_lt.mp h14, h20, Int32.not_le.mpr h20]) (by decide)
      · skip
        refine z_iload_n C 3 dX6_shop_23 rfl ?_
        refine z_iconst C (v := 1) dX6_shop_24 rfl ?_
        refine z_icmp_lt C 35 dX6_shop_25 (by decide) (fun h25 => ?_) (fun h25 => ?_)
        · skip
          refine z_aload_n C 0 dX6_shop_35 rfl ?_
          refine z_bipush C (v := (-6)) dX6_shop_36 rfl ?_
          refine z_callV1 C (c_X6_refuse l E _ _) ⟨by decide, rfl, rfl⟩ rfl rfl q_X6_51 ⟨by decide, by decide⟩ (Nat.le_of_ble_eq_true rfl) dX6_shop_38 (fun v F9 hp => ?_)
          obtain ⟨rfl, e9⟩ := hp
          rw [e9]
          clear e9 F9
          refine z_iret C0 dX6_shop_41 ?_
          exact xpo.ref (by simp [kShop, h4, h14, Int32.not_lt.mp h14, h20, Int32.not_lt.mp h20, h25, Int32.not_le.mpr h25]) (by decide)
        · skip
          refine z_iload_n C 3 dX6_shop_28 rfl ?_
          refine z_sipush C (v := 999) dX6_shop_29 rfl ?_
          refine z_icmp_le C 42 dX6_shop_32 (by decide) (fun h32 => ?_) (fun h32 => ?_)
          · skip
            refine z_aload_n C 0 dX6_shop_42 rfl ?_
            refine xg_0_2 C kf_X6_22 dX6_shop_43 ?_
            refine xg_3 (k := 0) C (by decide) (by decide) kf_X6_116 dX6_shop_46 ?_
            refine z_bipush C (v := 6) dX6_shop_49 rfl ?_
            refine z_icmp_lt C 61 dX6_shop_51 (by decide) (fun h51 => ?_) (fun h51 => ?_)
            · skip
              have h6 : nS (F.1 0).1 < 6 := by
                rw [eS] at h51
                exact (nI_ltI (by omega) (by omega)).mp (show nI (nS (F.1 0).1) < nI 6 from h51)
              refine z_aload_n C 0 dX6_shop_61 rfl ?_
              refine xg_0_2 C kf_X6_22 dX6_shop_62 ?_
              refine z_iload_n C 1 dX6_shop_65 rfl ?_
              refine z_iload_n C 2 dX6_shop_66 rfl ?_
              refine z_iload_n C 3 dX6_shop_67 rfl ?_
              refine z_callV3 C (cg_X1_addShop l E _ (by decide) hz h6 _ _ _) ⟨(by decide), rfl⟩ rfl rfl q_X6_119 ⟨by decide, by decide⟩ (Nat.le_of_ble_eq_true rfl) dX6_shop_68 (fun v F9 hp => ?_)
              obtain ⟨rfl, e9⟩ := hp
              rw [e9]
              clear e9 F9
              refine z_iret C0 dX6_shop_71 ?_
              exact xpo.ok (by simp [kShop, h4, h14, Int32.not_lt.mp h14, h20, Int32.not_lt.mp h20, h25, Int32.not_lt.mp h25, h32, Int32.not_lt.mpr h32, h51, Int32.not_le.mpr h51]) (rfl) (rfl)
            · skip
              refine z_aload_n C 0 dX6_shop_54 rfl ?_
              refine z_bipush C (v := (-7)) dX6_shop_55 rfl ?_
              refine z_callV1 C (c_X6_refuse l E _ _) ⟨by decide, rfl, rfl⟩ rfl rfl q_X6_51 ⟨by decide, by decide⟩ (Nat.le_of_ble_eq_true rfl) dX6_shop_57 (fun v F9 hp => ?_)
              obtain ⟨rfl, e9⟩ := hp
              rw [e9]
              clear e9 F9
              refine z_iret C0 dX6_shop_60 ?_
              exact xpo.ref (by simp [kShop, h4, h14, Int32.not_lt.mp h14, h20, Int32.not_lt.mp h20, h25, Int32.not_lt.mp h25, h32, Int32.not_lt.mpr h32, h51, Int32.not_lt.mp h51]) (by decide)
          · skip
            refine z_aload_n C 0 dX6_shop_35 rfl ?_
            refine z_bipush C (v := (-6)) dX6_shop_36 rfl ?_
            refine z_callV1 C (c_X6_refuse l E _ _) ⟨by decide, rfl, rfl⟩ rfl rfl q_X6_51 ⟨by decide, by decide⟩ (Nat.le_of_ble_eq_true rfl) dX6_shop_38 (fun v F9 hp => ?_)
            obtain ⟨rfl, e9⟩ := hp
            rw [e9]
            clear e9 F9
            refine z_iret C0 dX6_shop_41 ?_
            exact xpo.ref (by simp [kShop, h4, h14, Int32.not_lt.mp h14, h20, Int32.not_lt.mp h20, h25, Int32.not_lt.mp h25, h32, Int32.not_le.mp h32]) (by decide)
  · skip
    have h4 := bI_0 h4
    refine z_aload_n C 0 dX6_shop_7 rfl ?_
    refine z_iconst C (v := (-1)) dX6_shop_8 rfl ?_
    refine z_callV1 C (c_X6_refuse l E _ _) ⟨by decide, rfl, rfl⟩ rfl rfl q_X6_51 ⟨by decide, by decide⟩ (Nat.le_of_ble_eq_true rfl) dX6_shop_9 (fun v F9 hp => ?_)
    obtain ⟨rfl, e9⟩ := hp
    rw [e9]
    clear e9 F9
    refine z_iret C0 dX6_shop_12 ?_
    exact xpo.ref (by simp [kShop, h4]) (by decide)
set_option maxRecDepth 100000 in
set_option maxHeartbeats 4000000 in
theorem c_X6_child (l : Launch) (E : zE) (F : zF) (hI : XI F) (n q : Int32) : XM l E yX6_child cX6_child 3 (some .int) 3 [.ref (xadr E.2.2.1 (0, 0, 0)), .int (n), .int (q)] (F) (xpo F (kChild (F.1 0).1 n q) ((F.1 0).1.1 1) (fun F2 => F2 = sG F 0 (addCh (F.1 0).1 n q, (F.1 0).2))) := by
  refine XM.mk kq_X6 (Nat.le_of_ble_eq_true rfl) (fun K s C0 => ?_)
  have C := C0.c
  obtain ⟨hz, hw, hsh⟩ := id hI
  obtain ⟨⟨eS, lS⟩, ⟨eC, lC⟩⟩ := id hz
  refine z_iload_n C 1 dX6_child_0 rfl ?_
  refine z_iconst C (v := 1) dX6_child_1 rfl ?_
  refine z_icmp_lt C 22 dX6_child_2 (by decide) (fun h2 => ?_) (fun h2 => ?_)
  · skip
    refine z_aload_n C 0 dX6_child_22 rfl ?_
    refine z_bipush C (v := (-6)) dX6_child_23 rfl ?_
    refine z_callV1 C (c_X6_refuse l E _ _) ⟨by decide, rfl, rfl⟩ rfl rfl q_X6_51 ⟨by decide, by decide⟩ (Nat.le_of_ble_eq_true rfl) dX6_child_25 (fun v F9 hp => ?_)
    obtain ⟨rfl, e9⟩ := hp
    rw [e9]
    clear e9 F9
    refine z_iret C0 dX6_child_28 ?_
    exact xpo.ref (by simp [kChild, h2, Int32.not_le.mpr h2]) (by decide)
  · skip
    refine z_iload_n C 1 dX6_child_5 rfl ?_
    refine z_bipush C (v := 99) dX6_child_6 rfl ?_
    refine z_icmp_gt C 22 dX6_child_8 (by decide) (fun h8 => ?_) (fun h8 => ?_)
    · skip
      refine z_aload_n C 0 dX6_child_22 rfl ?_
      refine z_bipush C (v := (-6)) dX6_child_23 rfl ?_
      refine z_callV1 C (c_X6_refuse l E _ _) ⟨by decide, rfl, rfl⟩ rfl rfl q_X6_51 ⟨by decide, by decide⟩ (Nat.le_of_ble_eq_true rfl) dX6_child_25 (fun v F9 hp => ?_)
      obtain ⟨rfl, e9⟩ := hp
      rw [e9]
      clear e9 F9
      refine z_iret C0 dX6_child_28 ?_
      exact xpo.ref (by simp [kChild, h2, Int32.not_lt.mp h2, h8, Int32.not_le.mpr h8]) (by decide)
    · skip
      refine z_iload_n C 2 dX6_child_11 rfl ?_
      refine z_if_lt C 22 dX6_child_12 (by decide) (fun h12 => ?_) (fun h12 => ?_)
      · skip
        refine z_aload_n C 0 dX6_child_22 rfl ?_
        refine z_bipush C (v := (-6)) dX6_child_23 rfl ?_
        refine z_callV1 C (c_X6_refuse l E _ _) ⟨by decide, rfl, rfl⟩ rfl rfl q_X6_51 ⟨by decide, by decide⟩ (Nat.le_of_ble_eq_true rfl) dX6_child_25 (fun v F9 hp => ?_)
        obtain ⟨rfl, e9⟩ := hp
        rw [e9]
        clear e9 F9
        refine z_iret C0 dX6_child_28 ?_
        exact xpo.ref (by simp [kChild, h2, Int32.not_lt.mp h2, h8, Int32.not_lt.mp h8, h12, Int32.not_le.mpr h12]) (by decide)
      · skip
        refine z_iload_n C 2 dX6_child_15 rfl ?_
        refine z_sipush C (v := 9999) dX6_child_16 rfl ?_
        refine z_icmp_le C 29 dX6_child_19 (by decide) (fun h19 => ?_) (fun h19 => ?_)
        · skip
          refine z_aload_n C 0 dX6_child_29 rfl ?_
          refine xg_0_2 C kf_X6_22 dX6_child_30 ?_
          refine xg_3 (k := 1) C (by decide) (by decide) kf_X6_123 dX6_child_33 ?_
          refine z_bipush C (v := 6) dX6_child_36 rfl ?_
          refine z_icmp_lt C 48 dX6_child_38 (by decide) (fun h38 => ?_) (fun h38 => ?_)
          · skip
            have h6 : nC (F.1 0).1 < 6 := by
              rw [eC] at h38
              exact (nI_ltI (by omega) (by omega)).mp (show nI (nC (F.1 0).1) < nI 6 from h38)
            refine z_aload_n C 0 dX6_child_48 rfl ?_
            refine xg_0_2 C kf_X6_22 dX6_child_49 ?_
            refine z_iload_n C 1 dX6_child_52 rfl ?_
            refine z_iload_n C 2 dX6_child_53 rfl ?_
            refine z_callV2 C (cg_X1_addChild l E _ (by decide) hz h6 _ _) ⟨(by decide), rfl⟩ rfl rfl q_X6_126 ⟨by decide, by decide⟩ (Nat.le_of_ble_eq_true rfl) dX6_child_54 (fun v F9 hp => ?_)
            obtain ⟨rfl, e9⟩ := hp
            rw [e9]
            clear e9 F9
            refine z_iret C0 dX6_child_57 ?_
            exact xpo.ok (by simp [kChild, h2, Int32.not_lt.mp h2, h8, Int32.not_lt.mp h8, h12, Int32.not_lt.mp h12, h19, Int32.not_lt.mpr h19, h38, Int32.not_le.mpr h38]) (rfl) (rfl)
          · skip
            refine z_aload_n C 0 dX6_child_41 rfl ?_
            refine z_bipush C (v := (-7)) dX6_child_42 rfl ?_
            refine z_callV1 C (c_X6_refuse l E _ _) ⟨by decide, rfl, rfl⟩ rfl rfl q_X6_51 ⟨by decide, by decide⟩ (Nat.le_of_ble_eq_true rfl) dX6_child_44 (fun v F9 hp => ?_)
            obtain ⟨rfl, e9⟩ := hp
            rw [e9]
            clear e9 F9
            refine z_iret C0 dX6_child_47 ?_
            exact xpo.ref (by simp [kChild, h2, Int32.not_lt.mp h2, h8, Int32.not_lt.mp h8, h12, Int32.not_lt.mp h12, h19, Int32.not_lt.mpr h19, h38, Int32.not_lt.mp h38]) (by decide)
        · skip
          refine z_aload_n C 0 dX6_child_22 rfl ?_
          refine z_bipush C (v := (-6)) dX6_child_23 rfl ?_
          refine z_callV1 C (c_X6_refuse l E _ _) ⟨by decide, rfl, rfl⟩ rfl rfl q_X6_51 ⟨by decide, by decide⟩ (Nat.le_of_ble_eq_true rfl) dX6_child_25 (fun v F9 hp => ?_)
          obtain ⟨rfl, e9⟩ := hp
          rw [e9]
          clear e9 F9
          refine z_iret C0 dX6_child_28 ?_
          exact xpo.ref (by simp [kChild, h2, Int32.not_lt.mp h2, h8, Int32.not_lt.mp h8, h12, Int32.not_lt.mp h12, h19, Int32.not_le.mp h19]) (by decide)
set_option maxRecDepth 100000 in
set_option maxHeartbeats 4000000 in
theorem c_X6_shopOf (l : Launch) (E : zE) (F : zF) (hI : XI F) (s w : Int32) : XM l E yX6_shopOf cX6_shopOf 4 (some .int) 2 [.ref (xadr E.2.2.1 (0, 0, 0)), .int (s), .int (w)] (F) (xpo F (kShopOf (F.1 0).1 s w) (aShopOf ((F.1 0).1.2.1 s.toNatClampNeg) w) (fun F2 => F2 = F)) := by
  refine XM.mk kq_X6 (Nat.le_of_ble_eq_true rfl) (fun K s C0 => ?_)
  have C := C0.c
  obtain ⟨hz, hw, hsh⟩ := id hI
  obtain ⟨⟨eS, lS⟩, ⟨eC, lC⟩⟩ := id hz
  refine z_aload_n C 0 dX6_shopOf_0 rfl ?_
  refine z_iload_n C 1 dX6_shopOf_1 rfl ?_
  refine z_callV1 C (c_X6_isShop l E _ _) ⟨by decide, rfl, rfl⟩ rfl rfl q_X6_94 ⟨by decide, by decide⟩ (Nat.le_of_ble_eq_true rfl) dX6_shopOf_2 (fun v F9 hp => ?_)
  obtain ⟨rfl, e9⟩ := hp
  rw [e9]
  clear e9 F9
  refine z_if_ne C 15 dX6_shopOf_5 (by decide) (fun h5 => ?_) (fun h5 => ?_)
  · skip
    have h5 := bI_1 h5
    obtain ⟨j, hj, rfl⟩ := inR_of (n := nS (F.1 0).1) (by rw [← eS]; exact h5) (by omega)
    have hj6 : j < 6 := by omega
    refine z_aload_n C 0 dX6_shopOf_15 rfl ?_
    refine xg_0_2 C kf_X6_22 dX6_shopOf_16 ?_
    refine xg_3s C (by decide) kf_X6_104 dX6_shopOf_19 ?_
    refine z_iload_n C 1 dX6_shopOf_22 rfl ?_
    refine xa_4 C (by decide) j rfl (by first | assumption | omega) dX6_shopOf_23 ?_
    refine z_astore_n (i := 3) C dX6_shopOf_24 rfl (by decide) ?_
    refine z_iload_n C 3 dX6_shopOf_25 rfl ?_
    refine z_case (0) (fun h26_0 => ?_) (fun h26_0 => ?_)
    · refine z_tabIn C (0) (38) 64 h26_0 dX6_shopOf_26 (by decide) (by decide) ?_
      refine z_aload_n C 0 dX6_shopOf_64 rfl ?_
      refine xg_6 (k := 0) C (by decide) (by first | assumption | omega) (by decide) kf_X6_130 dX6_shopOf_65 ?_
      refine z_iret C0 dX6_shopOf_68 ?_
      subst h26_0
      exact xpo.ok (by simp [kShopOf, h5, show inR 0 6 = true from rfl]) (by rw [nI_clamp (by omega)]; rfl) rfl
    refine z_case (1) (fun h26_1 => ?_) (fun h26_1 => ?_)
    · refine z_tabIn C (1) (43) 69 h26_1 dX6_shopOf_26 (by decide) (by decide) ?_
      refine z_aload_n C 0 dX6_shopOf_69 rfl ?_
      refine xg_6 (k := 1) C (by decide) (by first | assumption | omega) (by decide) kf_X6_133 dX6_shopOf_70 ?_
      refine z_iret C0 dX6_shopOf_73 ?_
      subst h26_1
      exact xpo.ok (by simp [kShopOf, h5, show inR 1 6 = true from rfl]) (by rw [nI_clamp (by omega)]; rfl) rfl
    refine z_case (2) (fun h26_2 => ?_) (fun h26_2 => ?_)
    · refine z_tabIn C (2) (48) 74 h26_2 dX6_shopOf_26 (by decide) (by decide) ?_
      refine z_aload_n C 0 dX6_shopOf_74 rfl ?_
      refine xg_6 (k := 2) C (by decide) (by first | assumption | omega) (by decide) kf_X6_136 dX6_shopOf_75 ?_
      refine z_iret C0 dX6_shopOf_78 ?_
      subst h26_2
      exact xpo.ok (by simp [kShopOf, h5, show inR 2 6 = true from rfl]) (by rw [nI_clamp (by omega)]; rfl) rfl
    refine z_case (3) (fun h26_3 => ?_) (fun h26_3 => ?_)
    · refine z_tabIn C (3) (53) 79 h26_3 dX6_shopOf_26 (by decide) (by decide) ?_
      refine z_aload_n C 0 dX6_shopOf_79 rfl ?_
      refine xg_6 (k := 3) C (by decide) (by first | assumption | omega) (by decide) kf_X6_139 dX6_shopOf_80 ?_
      refine z_iret C0 dX6_shopOf_83 ?_
      subst h26_3
      exact xpo.ok (by simp [kShopOf, h5, show inR 3 6 = true from rfl]) (by rw [nI_clamp (by omega)]; rfl) rfl
    refine z_case (4) (fun h26_4 => ?_) (fun h26_4 => ?_)
    · refine z_tabIn C (4) (58) 84 h26_4 dX6_shopOf_26 (by decide) (by decide) ?_
      refine z_aload_n C 0 dX6_shopOf_84 rfl ?_
      refine xg_6 (k := 4) C (by decide) (by first | assumption | omega) (by decide) kf_X6_142 dX6_shopOf_85 ?_
      refine z_iret C0 dX6_shopOf_88 ?_
      subst h26_4
      exact xpo.ok (by simp [kShopOf, h5, show inR 4 6 = true from rfl]) (by rw [nI_clamp (by omega)]; rfl) rfl
    refine z_case (5) (fun h26_5 => ?_) (fun h26_5 => ?_)
    · refine z_tabIn C (5) (63) 89 h26_5 dX6_shopOf_26 (by decide) (by decide) ?_
      refine z_aload_n C 0 dX6_shopOf_89 rfl ?_
      refine z_callV0 C (c_X4_asksNow l E _ (by first | assumption | omega) (by first | assumption | omega)) ⟨(by decide), (by first | assumption | omega)⟩ rfl rfl q_X6_145 ⟨by decide, by decide⟩ (Nat.le_of_ble_eq_true rfl) dX6_shopOf_90 (fun v F9 hp => ?_)
      obtain ⟨rfl, e9⟩ := hp
      rw [e9]
      clear e9 F9
      refine z_iret C0 dX6_shopOf_93 ?_
      subst h26_5
      exact xpo.ok (by simp [kShopOf, h5, show inR 5 6 = true from rfl]) (by rw [nI_clamp (by omega)]; rfl) rfl
    refine z_tabOut C 94 (by have q0 := lv_neT (a := (0)) h26_0 rfl; have q1 := lv_neT (a := (1)) h26_1 rfl; have q2 := lv_neT (a := (2)) h26_2 rfl; have q3 := lv_neT (a := (3)) h26_3 rfl; have q4 := lv_neT (a := (4)) h26_4 rfl; have q5 := lv_neT (a := (5)) h26_5 rfl; omega) dX6_shopOf_26 (by decide) ?_
    refine z_aload_n C 1 dX6_shopOf_94 rfl ?_
    refine z_bipush C (v := (-5)) dX6_shopOf_95 rfl ?_
    refine z_callV1 C (c_X6_refuse l E _ _) ⟨by decide, rfl, rfl⟩ rfl rfl q_X6_51 ⟨by decide, by decide⟩ (Nat.le_of_ble_eq_true rfl) dX6_shopOf_97 (fun v F9 hp => ?_)
    obtain ⟨rfl, e9⟩ := hp
    rw [e9]
    clear e9 F9
    refine z_iret C0 dX6_shopOf_100 ?_
    exact xpo.ref (by simp [kShopOf, h5, inR6 h26_0 h26_1 h26_2 h26_3 h26_4 h26_5]) (by decide)
  · skip
    have h5 := bI_0 h5
    refine z_aload_n C 0 dX6_shopOf_8 rfl ?_
    refine z_bipush C (v := (-5)) dX6_shopOf_9 rfl ?_
    refine z_callV1 C (c_X6_refuse l E _ _) ⟨by decide, rfl, rfl⟩ rfl rfl q_X6_51 ⟨by decide, by decide⟩ (Nat.le_of_ble_eq_true rfl) dX6_shopOf_11 (fun v F9 hp => ?_)
    obtain ⟨rfl, e9⟩ := hp
    rw [e9]
    clear e9 F9
    refine z_iret C0 dX6_shopOf_14 ?_
    exact xpo.ref (by simp [kShopOf, h5]) (by decide)
set_option maxRecDepth 100000 in
set_option maxHeartbeats 4000000 in
theorem c_X6_childOf (l : Launch) (E : zE) (F : zF) (hI : XI F) (s w : Int32) : XM l E yX6_childOf cX6_childOf 4 (some .int) 2 [.ref (xadr E.2.2.1 (0, 0, 0)), .int (s), .int (w)] (F) (xpo F (kChildOf (F.1 0).1 s w) (aChildOf ((F.1 0).1.2.2 s.toNatClampNeg) w) (fun F2 => F2 = F)) := by
  refine XM.mk kq_X6 (Nat.le_of_ble_eq_true rfl) (fun K s C0 => ?_)
  have C := C0.c
  obtain ⟨hz, hw, hsh⟩ := id hI
  obtain ⟨⟨eS, lS⟩, ⟨eC, lC⟩⟩ := id hz
  refine z_aload_n C 0 dX6_childOf_0 rfl ?_
  refine z_iload_n C 1 dX6_childOf_1 rfl ?_
  refine z_callV1 C (c_X6_isChild l E _ _) ⟨by decide, rfl, rfl⟩ rfl rfl q_X6_149 ⟨by decide, by decide⟩ (Nat.le_of_ble_eq_true rfl) dX6_childOf_2 (fun v F9 hp => ?_)
  obtain ⟨rfl, e9⟩ := hp
  rw [e9]
  clear e9 F9
  refine z_if_ne C 15 dX6_childOf_5 (by decide) (fun h5 => ?_) (fun h5 => ?_)
  · skip
    have h5 := bI_1 h5
    obtain ⟨c, hc, rfl⟩ := inR_of (n := nC (F.1 0).1) (by rw [← eC]; exact h5) (by omega)
    have hc6 : c < 6 := by omega
    refine z_aload_n C 0 dX6_childOf_15 rfl ?_
    refine xg_0_2 C kf_X6_22 dX6_childOf_16 ?_
    refine xg_3c C (by decide) kf_X6_152 dX6_childOf_19 ?_
    refine z_iload_n C 1 dX6_childOf_22 rfl ?_
    refine xa_5 C (by decide) c rfl (by first | assumption | omega) dX6_childOf_23 ?_
    refine z_astore_n (i := 3) C dX6_childOf_24 rfl (by decide) ?_
    refine z_iload_n C 3 dX6_childOf_25 rfl ?_
    refine z_case (0) (fun h26_0 => ?_) (fun h26_0 => ?_)
    · refine z_tabIn C (0) (38) 64 h26_0 dX6_childOf_26 (by decide) (by decide) ?_
      refine z_aload_n C 0 dX6_childOf_64 rfl ?_
      refine xg_7 (k := 0) C (by decide) (by first | assumption | omega) (by decide) kf_X6_156 dX6_childOf_65 ?_
      refine z_iret C0 dX6_childOf_68 ?_
      subst h26_0
      exact xpo.ok (by simp [kChildOf, h5, show inR 0 6 = true from rfl]) (by rw [nI_clamp (by omega)]; rfl) rfl
    refine z_case (1) (fun h26_1 => ?_) (fun h26_1 => ?_)
    · refine z_tabIn C (1) (43) 69 h26_1 dX6_childOf_26 (by decide) (by decide) ?_
      refine z_aload_n C 0 dX6_childOf_69 rfl ?_
      refine xg_7 (k := 1) C (by decide) (by first | assumption | omega) (by decide) kf_X6_161 dX6_childOf_70 ?_
      refine z_iret C0 dX6_childOf_73 ?_
      subst h26_1
      exact xpo.ok (by simp [kChildOf, h5, show inR 1 6 = true from rfl]) (by rw [nI_clamp (by omega)]; rfl) rfl
    refine z_case (2) (fun h26_2 => ?_) (fun h26_2 => ?_)
    · refine z_tabIn C (2) (48) 74 h26_2 dX6_childOf_26 (by decide) (by decide) ?_
      refine z_aload_n C 0 dX6_childOf_74 rfl ?_
      refine xg_7 (k := 2) C (by decide) (by first | assumption | omega) (by decide) kf_X6_164 dX6_childOf_75 ?_
      refine z_iret C0 dX6_childOf_78 ?_
      subst h26_2
      exact xpo.ok (by simp [kChildOf, h5, show inR 2 6 = true from rfl]) (by rw [nI_clamp (by omega)]; rfl) rfl
    refine z_case (3) (fun h26_3 => ?_) (fun h26_3 => ?_)
    · refine z_tabIn C (3) (53) 79 h26_3 dX6_childOf_26 (by decide) (by decide) ?_
      refine z_aload_n C 0 dX6_childOf_79 rfl ?_
      refine xg_7 (k := 3) C (by decide) (by first | assumption | omega) (by decide) kf_X6_167 dX6_childOf_80 ?_
      refine z_iret C0 dX6_childOf_83 ?_
      subst h26_3
      exact xpo.ok (by simp [kChildOf, h5, show inR 3 6 = true from rfl]) (by rw [nI_clamp (by omega)]; rfl) rfl
    refine z_case (4) (fun h26_4 => ?_) (fun h26_4 => ?_)
    · refine z_tabIn C (4) (58) 84 h26_4 dX6_childOf_26 (by decide) (by decide) ?_
      refine z_aload_n C 0 dX6_childOf_84 rfl ?_
      refine xg_7 (k := 4) C (by decide) (by first | assumption | omega) (by decide) kf_X6_170 dX6_childOf_85 ?_
      refine z_iret C0 dX6_childOf_88 ?_
      subst h26_4
      exact xpo.ok (by simp [kChildOf, h5, show inR 4 6 = true from rfl]) (by rw [nI_clamp (by omega)]; rfl) rfl
    refine z_case (5) (fun h26_5 => ?_) (fun h26_5 => ?_)
    · refine z_tabIn C (5) (63) 89 h26_5 dX6_childOf_26 (by decide) (by decide) ?_
      refine z_aload_n C 0 dX6_childOf_89 rfl ?_
      refine xg_7 (k := 5) C (by decide) (by first | assumption | omega) (by decide) kf_X6_173 dX6_childOf_90 ?_
      refine z_iconst C (v := 1) dX6_childOf_93 rfl ?_
      refine z_iadd C dX6_childOf_94 ?_
      refine z_iret C0 dX6_childOf_95 ?_
      subst h26_5
      exact xpo.ok (by simp [kChildOf, h5, show inR 5 6 = true from rfl]) (by rw [nI_clamp (by omega)]; rfl) rfl
    refine z_tabOut C 96 (by have q0 := lv_neT (a := (0)) h26_0 rfl; have q1 := lv_neT (a := (1)) h26_1 rfl; have q2 := lv_neT (a := (2)) h26_2 rfl; have q3 := lv_neT (a := (3)) h26_3 rfl; have q4 := lv_neT (a := (4)) h26_4 rfl; have q5 := lv_neT (a := (5)) h26_5 rfl; omega) dX6_childOf_26 (by decide) ?_
    refine z_aload_n C 1 dX6_childOf_96 rfl ?_
    refine z_bipush C (v := (-5)) dX6_childOf_97 rfl ?_
    refine z_callV1 C (c_X6_refuse l E _ _) ⟨by decide, rfl, rfl⟩ rfl rfl q_X6_51 ⟨by decide, by decide⟩ (Nat.le_of_ble_eq_true rfl) dX6_childOf_99 (fun v F9 hp => ?_)
    obtain ⟨rfl, e9⟩ := hp
    rw [e9]
    clear e9 F9
    refine z_iret C0 dX6_childOf_102 ?_
    exact xpo.ref (by simp [kChildOf, h5, inR6 h26_0 h26_1 h26_2 h26_3 h26_4 h26_5]) (by decide)
  · skip
    have h5 := bI_0 h5
    refine z_aload_n C 0 dX6_childOf_8 rfl ?_
    refine z_bipush C (v := (-5)) dX6_childOf_9 rfl ?_
    refine z_callV1 C (c_X6_refuse l E _ _) ⟨by decide, rfl, rfl⟩ rfl rfl q_X6_51 ⟨by decide, by decide⟩ (Nat.le_of_ble_eq_true rfl) dX6_childOf_11 (fun v F9 hp => ?_)
    obtain ⟨rfl, e9⟩ := hp
    rw [e9]
    clear e9 F9
    refine z_iret C0 dX6_childOf_14 ?_
    exact xpo.ref (by simp [kChildOf, h5]) (by decide)
