/-! the class: its calls, the next -/
theorem i_123 {w : Int32} (h1 : ¬ w = 1) (h2 : ¬ w = 2) (h3 : ¬ w < 1) (h4 : ¬ 3 < w) : w = 3 := by
  have e1 : (1 : Int32).toInt = 1 := rfl
  have e2 : (2 : Int32).toInt = 2 := rfl
  have e3 : (3 : Int32).toInt = 3 := rfl
  rw [i_eq] at h1 h2 ⊢
  rw [i_lt] at h3 h4
  omega
set_option maxRecDepth 100000 in
set_option maxHeartbeats 4000000 in
theorem c_X6_tell (l : Launch) (E : zE) (F : zF) (hI : XI F) (a w v : Int32) : XM l E yX6_tell cX6_tell 7 (some .int) 2 [.ref (xadr E.2.2.1 (0, 0, 0)), .int (a), .int (w), .int (v)] (F) (xpo F (kTell (F.1 0).1 a w v) ((F.1 0).1.2.2 a.toNatClampNeg w.toNatClampNeg) (fun F2 => F2 = sG F 0 (fCh (F.1 0) a.toNatClampNeg w.toNatClampNeg v))) := by
  refine XM.mk kq_X6 (Nat.le_of_ble_eq_true rfl) (fun K s C0 => ?_)
  have C := C0.c
  obtain ⟨hz, hw, hsh⟩ := id hI
  obtain ⟨⟨eS, lS⟩, ⟨eC, lC⟩⟩ := id hz
  refine z_aload_n C 0 dX6_tell_0 rfl ?_
  refine z_iload_n C 1 dX6_tell_1 rfl ?_
  refine z_callV1 C (c_X6_isChild l E _ _) ⟨by decide, rfl, rfl⟩ rfl rfl q_X6_149 ⟨by decide, by decide⟩ (Nat.le_of_ble_eq_true rfl) dX6_tell_2 (fun v F9 hp => ?_)
  obtain ⟨rfl, e9⟩ := hp
  rw [e9]
  clear e9 F9
  refine z_if_ne C 14 dX6_tell_5 (by decide) (fun h5 => ?_) (fun h5 => ?_)
  · skip
    have h5 := bI_1 h5
    refine z_iload_n C 2 dX6_tell_14 rfl ?_
    refine z_iconst C (v := 3) dX6_tell_15 rfl ?_
    refine z_icmp_ne C 24 dX6_tell_16 (by decide) (fun h16 => ?_) (fun h16 => ?_)
    · skip
      refine z_sipush C (v := 9999) dX6_tell_24 rfl ?_
      refine z_istore C dX6_tell_27 (by decide) ?_
      refine z_iload_n C 3 dX6_tell_29 rfl ?_
      refine z_iconst C (v := 1) dX6_tell_30 rfl ?_
      refine z_icmp_lt C 49 dX6_tell_31 (by decide) (fun h31 => ?_) (fun h31 => ?_)
      · skip
        refine z_aload_n C 1 dX6_tell_49 rfl ?_
        refine z_bipush C (v := (-6)) dX6_tell_50 rfl ?_
        refine z_callV1 C (c_X6_refuse l E _ _) ⟨by decide, rfl, rfl⟩ rfl rfl q_X6_51 ⟨by decide, by decide⟩ (Nat.le_of_ble_eq_true rfl) dX6_tell_52 (fun v F9 hp => ?_)
        obtain ⟨rfl, e9⟩ := hp
        rw [e9]
        clear e9 F9
        refine z_iret C0 dX6_tell_55 ?_
        exact xpo.ref (by simp only [kTell]; simp [h5, h16, h31, Int32.not_le.mpr h31]) (by decide)
      · skip
        refine z_iload_n C 3 dX6_tell_34 rfl ?_
        refine z_iconst C (v := 3) dX6_tell_35 rfl ?_
        refine z_icmp_gt C 49 dX6_tell_36 (by decide) (fun h36 => ?_) (fun h36 => ?_)
        · skip
          refine z_aload_n C 1 dX6_tell_49 rfl ?_
          refine z_bipush C (v := (-6)) dX6_tell_50 rfl ?_
          refine z_callV1 C (c_X6_refuse l E _ _) ⟨by decide, rfl, rfl⟩ rfl rfl q_X6_51 ⟨by decide, by decide⟩ (Nat.le_of_ble_eq_true rfl) dX6_tell_52 (fun v F9 hp => ?_)
          obtain ⟨rfl, e9⟩ := hp
          rw [e9]
          clear e9 F9
          refine z_iret C0 dX6_tell_55 ?_
          exact xpo.ref (by simp only [kTell]; simp [h5, h16, h31, Int32.not_lt.mp h31, h36, Int32.not_le.mpr h36]) (by decide)
        · skip
          refine z_iload_n C 4 dX6_tell_39 rfl ?_
          refine z_if_lt C 49 dX6_tell_40 (by decide) (fun h40 => ?_) (fun h40 => ?_)
          · skip
            refine z_aload_n C 1 dX6_tell_49 rfl ?_
            refine z_bipush C (v := (-6)) dX6_tell_50 rfl ?_
            refine z_callV1 C (c_X6_refuse l E _ _) ⟨by decide, rfl, rfl⟩ rfl rfl q_X6_51 ⟨by decide, by decide⟩ (Nat.le_of_ble_eq_true rfl) dX6_tell_52 (fun v F9 hp => ?_)
            obtain ⟨rfl, e9⟩ := hp
            rw [e9]
            clear e9 F9
            refine z_iret C0 dX6_tell_55 ?_
            exact xpo.ref (by simp only [kTell]; simp [h5, h16, h31, Int32.not_lt.mp h31, h36, Int32.not_lt.mp h36, h40, Int32.not_le.mpr h40]) (by decide)
          · skip
            refine z_iload_n C 4 dX6_tell_43 rfl ?_
            refine z_iload C 0 dX6_tell_44 rfl ?_
            refine z_icmp_le C 56 dX6_tell_46 (by decide) (fun h46 => ?_) (fun h46 => ?_)
            · skip
              obtain ⟨c, hc, rfl⟩ := inR_of (n := nC (F.1 0).1) (by rw [← eC]; exact h5) (by omega)
              have hc6 : c < 6 := by omega
              refine z_aload_n C 1 dX6_tell_56 rfl ?_
              refine xg_0_2 C kf_X6_22 dX6_tell_57 ?_
              refine xg_3c C (by decide) kf_X6_152 dX6_tell_60 ?_
              refine z_iload_n C 2 dX6_tell_63 rfl ?_
              refine xa_5 C (by decide) c rfl (by first | assumption | omega) dX6_tell_64 ?_
              refine z_astore C dX6_tell_65 (by decide) ?_
              refine z_iload_n C 4 dX6_tell_67 rfl ?_
              refine z_iconst C (v := 1) dX6_tell_68 rfl ?_
              refine z_icmp_ne C 88 dX6_tell_69 (by decide) (fun h69 => ?_) (fun h69 => ?_)
              · skip
                refine z_iload_n C 4 dX6_tell_88 rfl ?_
                refine z_iconst C (v := 2) dX6_tell_89 rfl ?_
                refine z_icmp_ne C 109 dX6_tell_90 (by decide) (fun h90 => ?_) (fun h90 => ?_)
                · skip
                  refine z_aload C 0 dX6_tell_109 rfl ?_
                  refine xg_7 (k := 3) C (by decide) (by first | assumption | omega) (by decide) kf_X6_167 dX6_tell_111 ?_
                  refine z_istore C dX6_tell_114 (by decide) ?_
                  refine z_aload C 1 dX6_tell_116 rfl ?_
                  refine z_iload_n C 6 dX6_tell_118 rfl ?_
                  refine xp_7 (k := 3) C (by decide) (by first | assumption | omega) (by decide) kf_X6_167 dX6_tell_119 ?_
                  refine z_iload C 0 dX6_tell_122 rfl ?_
                  refine z_iret C0 dX6_tell_124 ?_
                  have hkk : kTell (F.1 0).1 (nI c) w v = 0 := by simp only [kTell]; simp [h5, h16, h31, Int32.not_lt.mp h31, h36, Int32.not_lt.mp h36, h40, Int32.not_lt.mp h40, h46, Int32.not_lt.mpr h46, h69, h90]
                  have hw3 : w = 3 := i_123 h69 h90 (Int32.not_lt.mpr (Int32.not_lt.mp h31)) (Int32.not_lt.mpr (Int32.not_lt.mp h36))
                  subst hw3
                  exact xpo.ok hkk (by rw [nI_clamp (by omega)]; rfl) (by rw [nI_clamp (by omega)]; rfl)
                · skip
                  refine z_aload C 0 dX6_tell_93 rfl ?_
                  refine xg_7 (k := 2) C (by decide) (by first | assumption | omega) (by decide) kf_X6_164 dX6_tell_95 ?_
                  refine z_istore C dX6_tell_98 (by decide) ?_
                  refine z_aload C 1 dX6_tell_100 rfl ?_
                  refine z_iload_n C 6 dX6_tell_102 rfl ?_
                  refine xp_7 (k := 2) C (by decide) (by first | assumption | omega) (by decide) kf_X6_164 dX6_tell_103 ?_
                  refine z_goto C 122 dX6_tell_106 (by decide) ?_
                  refine z_iload C 0 dX6_tell_122 rfl ?_
                  refine z_iret C0 dX6_tell_124 ?_
                  have hkk : kTell (F.1 0).1 (nI c) w v = 0 := by simp only [kTell]; simp [h5, h16, h31, Int32.not_lt.mp h31, h36, Int32.not_lt.mp h36, h40, Int32.not_lt.mp h40, h46, Int32.not_lt.mpr h46, h69, h90]
                  subst h90
                  exact xpo.ok hkk (by rw [nI_clamp (by omega)]; rfl) (by rw [nI_clamp (by omega)]; rfl)
              · skip
                refine z_aload C 0 dX6_tell_72 rfl ?_
                refine xg_7 (k := 1) C (by decide) (by first | assumption | omega) (by decide) kf_X6_161 dX6_tell_74 ?_
                refine z_istore C dX6_tell_77 (by decide) ?_
                refine z_aload C 1 dX6_tell_79 rfl ?_
                refine z_iload_n C 6 dX6_tell_81 rfl ?_
                refine xp_7 (k := 1) C (by decide) (by first | assumption | omega) (by decide) kf_X6_161 dX6_tell_82 ?_
                refine z_goto C 122 dX6_tell_85 (by decide) ?_
                refine z_iload C 0 dX6_tell_122 rfl ?_
                refine z_iret C0 dX6_tell_124 ?_
                have hkk : kTell (F.1 0).1 (nI c) w v = 0 := by simp only [kTell]; simp [h5, h16, h31, Int32.not_lt.mp h31, h36, Int32.not_lt.mp h36, h40, Int32.not_lt.mp h40, h46, Int32.not_lt.mpr h46, h69]
                subst h69
                exact xpo.ok hkk (by rw [nI_clamp (by omega)]; rfl) (by rw [nI_clamp (by omega)]; rfl)
            · skip
              refine z_aload_n C 1 dX6_tell_49 rfl ?_
              refine z_bipush C (v := (-6)) dX6_tell_50 rfl ?_
              refine z_callV1 C (c_X6_refuse l E _ _) ⟨by decide, rfl, rfl⟩ rfl rfl q_X6_51 ⟨by decide, by decide⟩ (Nat.le_of_ble_eq_true rfl) dX6_tell_52 (fun v F9 hp => ?_)
              obtain ⟨rfl, e9⟩ := hp
              rw [e9]
              clear e9 F9
              refine z_iret C0 dX6_tell_55 ?_
              exact xpo.ref (by simp only [kTell]; simp [h5, h16, h31, Int32.not_lt.mp h31, h36, Int32.not_lt.mp h36, h40, Int32.not_lt.mp h40, h46, Int32.not_le.mp h46]) (by decide)
    · skip
      refine z_bipush C (v := 99) dX6_tell_19 rfl ?_
      refine z_goto C 27 dX6_tell_21 (by decide) ?_
      refine z_istore C dX6_tell_27 (by decide) ?_
      refine z_iload_n C 3 dX6_tell_29 rfl ?_
      refine z_iconst C (v := 1) dX6_tell_30 rfl ?_
      refine z_icmp_lt C 49 dX6_tell_31 (by decide) (fun h31 => ?_) (fun h31 => ?_)
      · skip
        refine z_aload_n C 1 dX6_tell_49 rfl ?_
        refine z_bipush C (v := (-6)) dX6_tell_50 rfl ?_
        refine z_callV1 C (c_X6_refuse l E _ _) ⟨by decide, rfl, rfl⟩ rfl rfl q_X6_51 ⟨by decide, by decide⟩ (Nat.le_of_ble_eq_true rfl) dX6_tell_52 (fun v F9 hp => ?_)
        obtain ⟨rfl, e9⟩ := hp
        rw [e9]
        clear e9 F9
        refine z_iret C0 dX6_tell_55 ?_
        subst h16
        exact absurd h31 (by decide)
      · skip
        refine z_iload_n C 3 dX6_tell_34 rfl ?_
        refine z_iconst C (v := 3) dX6_tell_35 rfl ?_
        refine z_icmp_gt C 49 dX6_tell_36 (by decide) (fun h36 => ?_) (fun h36 => ?_)
        · skip
          refine z_aload_n C 1 dX6_tell_49 rfl ?_
          refine z_bipush C (v := (-6)) dX6_tell_50 rfl ?_
          refine z_callV1 C (c_X6_refuse l E _ _) ⟨by decide, rfl, rfl⟩ rfl rfl q_X6_51 ⟨by decide, by decide⟩ (Nat.le_of_ble_eq_true rfl) dX6_tell_52 (fun v F9 hp => ?_)
          obtain ⟨rfl, e9⟩ := hp
          rw [e9]
          clear e9 F9
          refine z_iret C0 dX6_tell_55 ?_
          subst h16
          exact absurd h36 (by decide)
        · skip
          refine z_iload_n C 4 dX6_tell_39 rfl ?_
          refine z_if_lt C 49 dX6_tell_40 (by decide) (fun h40 => ?_) (fun h40 => ?_)
          · skip
            refine z_aload_n C 1 dX6_tell_49 rfl ?_
            refine z_bipush C (v := (-6)) dX6_tell_50 rfl ?_
            refine z_callV1 C (c_X6_refuse l E _ _) ⟨by decide, rfl, rfl⟩ rfl rfl q_X6_51 ⟨by decide, by decide⟩ (Nat.le_of_ble_eq_true rfl) dX6_tell_52 (fun v F9 hp => ?_)
            obtain ⟨rfl, e9⟩ := hp
            rw [e9]
            clear e9 F9
            refine z_iret C0 dX6_tell_55 ?_
            exact xpo.ref (by simp only [kTell]; simp [h5, h16, h31, Int32.not_lt.mp h31, h36, Int32.not_lt.mp h36, h40, Int32.not_le.mpr h40]) (by decide)
          · skip
            refine z_iload_n C 4 dX6_tell_43 rfl ?_
            refine z_iload C 0 dX6_tell_44 rfl ?_
            refine z_icmp_le C 56 dX6_tell_46 (by decide) (fun h46 => ?_) (fun h46 => ?_)
            · skip
              obtain ⟨c, hc, rfl⟩ := inR_of (n := nC (F.1 0).1) (by rw [← eC]; exact h5) (by omega)
              have hc6 : c < 6 := by omega
              refine z_aload_n C 1 dX6_tell_56 rfl ?_
              refine xg_0_2 C kf_X6_22 dX6_tell_57 ?_
              refine xg_3c C (by decide) kf_X6_152 dX6_tell_60 ?_
              refine z_iload_n C 2 dX6_tell_63 rfl ?_
              refine xa_5 C (by decide) c rfl (by first | assumption | omega) dX6_tell_64 ?_
              refine z_astore C dX6_tell_65 (by decide) ?_
              refine z_iload_n C 4 dX6_tell_67 rfl ?_
              refine z_iconst C (v := 1) dX6_tell_68 rfl ?_
              refine z_icmp_ne C 88 dX6_tell_69 (by decide) (fun h69 => ?_) (fun h69 => ?_)
              · skip
                refine z_iload_n C 4 dX6_tell_88 rfl ?_
                refine z_iconst C (v := 2) dX6_tell_89 rfl ?_
                refine z_icmp_ne C 109 dX6_tell_90 (by decide) (fun h90 => ?_) (fun h90 => ?_)
                · skip
                  refine z_aload C 0 dX6_tell_109 rfl ?_
                  refine xg_7 (k := 3) C (by decide) (by first | assumption | omega) (by decide) kf_X6_167 dX6_tell_111 ?_
                  refine z_istore C dX6_tell_114 (by decide) ?_
                  refine z_aload C 1 dX6_tell_116 rfl ?_
                  refine z_iload_n C 6 dX6_tell_118 rfl ?_
                  refine xp_7 (k := 3) C (by decide) (by first | assumption | omega) (by decide) kf_X6_167 dX6_tell_119 ?_
                  refine z_iload C 0 dX6_tell_122 rfl ?_
                  refine z_iret C0 dX6_tell_124 ?_
                  have hkk : kTell (F.1 0).1 (nI c) w v = 0 := by simp only [kTell]; simp [h5, h16, h31, Int32.not_lt.mp h31, h36, Int32.not_lt.mp h36, h40, Int32.not_lt.mp h40, h46, Int32.not_lt.mpr h46, h69, h90]
                  have hw3 : w = 3 := i_123 h69 h90 (Int32.not_lt.mpr (Int32.not_lt.mp h31)) (Int32.not_lt.mpr (Int32.not_lt.mp h36))
                  subst hw3
                  exact xpo.ok hkk (by rw [nI_clamp (by omega)]; rfl) (by rw [nI_clamp (by omega)]; rfl)
                · skip
                  refine z_aload C 0 dX6_tell_93 rfl ?_
                  refine xg_7 (k := 2) C (by decide) (by first | assumption | omega) (by decide) kf_X6_164 dX6_tell_95 ?_
                  refine z_istore C dX6_tell_98 (by decide) ?_
                  refine z_aload C 1 dX6_tell_100 rfl ?_
                  refine z_iload_n C 6 dX6_tell_102 rfl ?_
                  refine xp_7 (k := 2) C (by decide) (by first | assumption | omega) (by decide) kf_X6_164 dX6_tell_103 ?_
                  refine z_goto C 122 dX6_tell_106 (by decide) ?_
                  refine z_iload C 0 dX6_tell_122 rfl ?_
                  refine z_iret C0 dX6_tell_124 ?_
                  have hkk : kTell (F.1 0).1 (nI c) w v = 0 := by simp only [kTell]; simp [h5, h16, h31, Int32.not_lt.mp h31, h36, Int32.not_lt.mp h36, h40, Int32.not_lt.mp h40, h46, Int32.not_lt.mpr h46, h69, h90]
                  subst h90
                  exact xpo.ok hkk (by rw [nI_clamp (by omega)]; rfl) (by rw [nI_clamp (by omega)]; rfl)
              · skip
                refine z_aload C 0 dX6_tell_72 rfl ?_
                refine xg_7 (k := 1) C (by decide) (by first | assumption | omega) (by decide) kf_X6_161 dX6_tell_74 ?_
                refine z_istore C dX6_tell_77 (by decide) ?_
                refine z_aload C 1 dX6_tell_79 rfl ?_
                refine z_iload_n C 6 dX6_tell_81 rfl ?_
                refine xp_7 (k := 1) C (by decide) (by first | assumption | omega) (by decide) kf_X6_161 dX6_tell_82 ?_
                refine z_goto C 122 dX6_tell_85 (by decide) ?_
                refine z_iload C 0 dX6_tell_122 rfl ?_
                refine z_iret C0 dX6_tell_124 ?_
                have hkk : kTell (F.1 0).1 (nI c) w v = 0 := by simp only [kTell]; simp [h5, h16, h31, Int32.not_lt.mp h31, h36, Int32.not_lt.mp h36, h40, Int32.not_lt.mp h40, h46, Int32.not_lt.mpr h46, h69]
                subst h69
                exact xpo.ok hkk (by rw [nI_clamp (by omega)]; rfl) (by rw [nI_clamp (by omega)]; rfl)
            · skip
              refine z_aload_n C 1 dX6_tell_49 rfl ?_
              refine z_bipush C (v := (-6)) dX6_tell_50 rfl ?_
              refine z_callV1 C (c_X6_refuse l E _ _) ⟨by decide, rfl, rfl⟩ rfl rfl q_X6_51 ⟨by decide, by decide⟩ (Nat.le_of_ble_eq_true rfl) dX6_tell_52 (fun v F9 hp => ?_)
              obtain ⟨rfl, e9⟩ := hp
              rw [e9]
              clear e9 F9
              refine z_iret C0 dX6_tell_55 ?_
              exact xpo.ref (by simp only [kTell]; simp [h5, h16, h31, Int32.not_lt.mp h31, h36, Int32.not_lt.mp h36, h40, Int32.not_lt.mp h40, h46, Int32.not_le.mp h46]) (by decide)
  · skip
    have h5 := bI_0 h5
    refine z_aload_n C 0 dX6_tell_8 rfl ?_
    refine z_iconst C (v := (-1)) dX6_tell_9 rfl ?_
    refine z_callV1 C (c_X6_refuse l E _ _) ⟨by decide, rfl, rfl⟩ rfl rfl q_X6_51 ⟨by decide, by decide⟩ (Nat.le_of_ble_eq_true rfl) dX6_tell_10 (fun v F9 hp => ?_)
    obtain ⟨rfl, e9⟩ := hp
    rw [e9]
    clear e9 F9
    refine z_iret C0 dX6_tell_13 ?_
    exact xpo.ref (by simp [kTell, h5]) (by decide)
set_option maxRecDepth 100000 in
set_option maxHeartbeats 4000000 in
theorem c_X6_keeps (l : Launch) (E : zE) (F : zF) (hI : XI F) (a p : Int32) : XM l E yX6_keeps cX6_keeps 4 (some .int) 3 [.ref (xadr E.2.2.1 (0, 0, 0)), .int (a), .int (p)] (F) (xpo F (kKeeps (F.1 0).1 a p) ((F.1 0).1.2.2 a.toNatClampNeg 5) (fun F2 => F2 = sG F 0 (fCh (F.1 0) a.toNatClampNeg 5 p))) := by
  refine XM.mk kq_X6 (Nat.le_of_ble_eq_true rfl) (fun K s C0 => ?_)
  have C := C0.c
  obtain ⟨hz, hw, hsh⟩ := id hI
  obtain ⟨⟨eS, lS⟩, ⟨eC, lC⟩⟩ := id hz
  refine z_aload_n C 0 dX6_keeps_0 rfl ?_
  refine z_iload_n C 1 dX6_keeps_1 rfl ?_
  refine z_callV1 C (c_X6_isChild l E _ _) ⟨by decide, rfl, rfl⟩ rfl rfl q_X6_149 ⟨by decide, by decide⟩ (Nat.le_of_ble_eq_true rfl) dX6_keeps_2 (fun v F9 hp => ?_)
  obtain ⟨rfl, e9⟩ := hp
  rw [e9]
  clear e9 F9
  refine z_if_eq C 21 dX6_keeps_5 (by decide) (fun h5 => ?_) (fun h5 => ?_)
  · skip
    have h5 := bI_0 h5
    refine z_aload_n C 0 dX6_keeps_21 rfl ?_
    refine z_bipush C (v := (-11)) dX6_keeps_22 rfl ?_
    refine z_callV1 C (c_X6_refuse l E _ _) ⟨by decide, rfl, rfl⟩ rfl rfl q_X6_51 ⟨by decide, by decide⟩ (Nat.le_of_ble_eq_true rfl) dX6_keeps_24 (fun v F9 hp => ?_)
    obtain ⟨rfl, e9⟩ := hp
    rw [e9]
    clear e9 F9
    refine z_iret C0 dX6_keeps_27 ?_
    exact xpo.ref (by simp [kKeeps, h5]) (by decide)
  · skip
    have h5 := bI_1 h5
    refine z_iload_n C 2 dX6_keeps_8 rfl ?_
    refine z_iconst C (v := (-1)) dX6_keeps_9 rfl ?_
    refine z_icmp_eq C 28 dX6_keeps_10 (by decide) (fun h10 => ?_) (fun h10 => ?_)
    · skip
      obtain ⟨c, hc, rfl⟩ := inR_of (n := nC (F.1 0).1) (by rw [← eC]; exact h5) (by omega)
      have hc6 : c < 6 := by omega
      refine z_aload_n C 0 dX6_keeps_28 rfl ?_
      refine xg_0_2 C kf_X6_22 dX6_keeps_29 ?_
      refine xg_3c C (by decide) kf_X6_152 dX6_keeps_32 ?_
      refine z_iload_n C 1 dX6_keeps_35 rfl ?_
      refine xa_5 C (by decide) c rfl (by first | assumption | omega) dX6_keeps_36 ?_
      refine xg_7 (k := 5) C (by decide) (by first | assumption | omega) (by decide) kf_X6_173 dX6_keeps_37 ?_
      refine z_istore_n (i := 3) C dX6_keeps_40 rfl (by decide) ?_
      refine z_aload_n C 1 dX6_keeps_41 rfl ?_
      refine xg_0_2 C kf_X6_22 dX6_keeps_42 ?_
      refine xg_3c C (by decide) kf_X6_152 dX6_keeps_45 ?_
      refine z_iload_n C 2 dX6_keeps_48 rfl ?_
      refine xa_5 C (by decide) c rfl (by first | assumption | omega) dX6_keeps_49 ?_
      refine z_iload_n C 3 dX6_keeps_50 rfl ?_
      refine xp_7 (k := 5) C (by decide) (by first | assumption | omega) (by decide) kf_X6_173 dX6_keeps_51 ?_
      refine z_iload_n C 0 dX6_keeps_54 rfl ?_
      refine z_iret C0 dX6_keeps_55 ?_
      exact xpo.ok (by simp [kKeeps, h5, h10]) (by rw [nI_clamp (by omega)]) (by rw [nI_clamp (by omega)])
    · skip
      refine z_aload_n C 0 dX6_keeps_13 rfl ?_
      refine z_iload_n C 2 dX6_keeps_14 rfl ?_
      refine z_callV1 C (c_X6_isShop l E _ _) ⟨by decide, rfl, rfl⟩ rfl rfl q_X6_94 ⟨by decide, by decide⟩ (Nat.le_of_ble_eq_true rfl) dX6_keeps_15 (fun v F9 hp => ?_)
      obtain ⟨rfl, e9⟩ := hp
      rw [e9]
      clear e9 F9
      refine z_if_ne C 28 dX6_keeps_18 (by decide) (fun h18 => ?_) (fun h18 => ?_)
      · skip
        have h18 := bI_1 h18
        obtain ⟨c, hc, rfl⟩ := inR_of (n := nC (F.1 0).1) (by rw [← eC]; exact h5) (by omega)
        have hc6 : c < 6 := by omega
        refine z_aload_n C 0 dX6_keeps_28 rfl ?_
        refine xg_0_2 C kf_X6_22 dX6_keeps_29 ?_
        refine xg_3c C (by decide) kf_X6_152 dX6_keeps_32 ?_
        refine z_iload_n C 1 dX6_keeps_35 rfl ?_
        refine xa_5 C (by decide) c rfl (by first | assumption | omega) dX6_keeps_36 ?_
        refine xg_7 (k := 5) C (by decide) (by first | assumption | omega) (by decide) kf_X6_173 dX6_keeps_37 ?_
        refine z_istore_n (i := 3) C dX6_keeps_40 rfl (by decide) ?_
        refine z_aload_n C 1 dX6_keeps_41 rfl ?_
        refine xg_0_2 C kf_X6_22 dX6_keeps_42 ?_
        refine xg_3c C (by decide) kf_X6_152 dX6_keeps_45 ?_
        refine z_iload_n C 2 dX6_keeps_48 rfl ?_
        refine xa_5 C (by decide) c rfl (by first | assumption | omega) dX6_keeps_49 ?_
        refine z_iload_n C 3 dX6_keeps_50 rfl ?_
        refine xp_7 (k := 5) C (by decide) (by first | assumption | omega) (by decide) kf_X6_173 dX6_keeps_51 ?_
        refine z_iload_n C 0 dX6_keeps_54 rfl ?_
        refine z_iret C0 dX6_keeps_55 ?_
        exact xpo.ok (by simp [kKeeps, h5, h10, h18]) (by rw [nI_clamp (by omega)]) (by rw [nI_clamp (by omega)])
      · skip
        have h18 := bI_0 h18
        refine z_aload_n C 0 dX6_keeps_21 rfl ?_
        refine z_bipush C (v := (-11)) dX6_keeps_22 rfl ?_
        refine z_callV1 C (c_X6_refuse l E _ _) ⟨by decide, rfl, rfl⟩ rfl rfl q_X6_51 ⟨by decide, by decide⟩ (Nat.le_of_ble_eq_true rfl) dX6_keeps_24 (fun v F9 hp => ?_)
        obtain ⟨rfl, e9⟩ := hp
        rw [e9]
        clear e9 F9
        refine z_iret C0 dX6_keeps_27 ?_
        exact xpo.ref (by simp [kKeeps, h5, h10, h18]) (by decide)
set_option maxRecDepth 100000 in
set_option maxHeartbeats 4000000 in
theorem c_X6_ask (l : Launch) (E : zE) (F : zF) (hI : XI F) (w v : Int32) : XM l E yX6_ask cX6_ask 4 (some .int) 2 [.ref (xadr E.2.2.1 (0, 0, 0)), .int (w), .int (v)] (F) (xpo F (kAsk w v) (if w = 0 then (F.1 0).1.1 4 else (F.1 0).1.1 5) (fun F2 => F2 = sG F 0 (fSc (F.1 0) (if w = 0 then 4 else 5) v))) := by
  refine XM.mk kq_X6 (Nat.le_of_ble_eq_true rfl) (fun K s C0 => ?_)
  have C := C0.c
  obtain ⟨hz, hw, hsh⟩ := id hI
  obtain ⟨⟨eS, lS⟩, ⟨eC, lC⟩⟩ := id hz
  refine z_iload_n C 1 dX6_ask_0 rfl ?_
  refine z_if_ne C 32 dX6_ask_1 (by decide) (fun h1 => ?_) (fun h1 => ?_)
  · skip
    refine z_iload_n C 1 dX6_ask_32 rfl ?_
    refine z_iconst C (v := 1) dX6_ask_33 rfl ?_
    refine z_icmp_ne C 66 dX6_ask_34 (by decide) (fun h34 => ?_) (fun h34 => ?_)
    · skip
      refine z_aload_n C 0 dX6_ask_66 rfl ?_
      refine z_bipush C (v := (-6)) dX6_ask_67 rfl ?_
      refine z_callV1 C (c_X6_refuse l E _ _) ⟨by decide, rfl, rfl⟩ rfl rfl q_X6_51 ⟨by decide, by decide⟩ (Nat.le_of_ble_eq_true rfl) dX6_ask_69 (fun v F9 hp => ?_)
      obtain ⟨rfl, e9⟩ := hp
      rw [e9]
      clear e9 F9
      refine z_iret C0 dX6_ask_72 ?_
      exact xpo.ref (by simp only [kAsk]; simp [h1, h34]) (by decide)
    · skip
      refine z_iload_n C 2 dX6_ask_37 rfl ?_
      refine z_if_lt C 66 dX6_ask_38 (by decide) (fun h38 => ?_) (fun h38 => ?_)
      · skip
        refine z_aload_n C 0 dX6_ask_66 rfl ?_
        refine z_bipush C (v := (-6)) dX6_ask_67 rfl ?_
        refine z_callV1 C (c_X6_refuse l E _ _) ⟨by decide, rfl, rfl⟩ rfl rfl q_X6_51 ⟨by decide, by decide⟩ (Nat.le_of_ble_eq_true rfl) dX6_ask_69 (fun v F9 hp => ?_)
        obtain ⟨rfl, e9⟩ := hp
        rw [e9]
        clear e9 F9
        refine z_iret C0 dX6_ask_72 ?_
        exact xpo.ref (by simp only [kAsk]; simp [inT_f1 h38, h1, h34]) (by decide)
      · skip
        refine z_iload_n C 2 dX6_ask_41 rfl ?_
        refine z_sipush C (v := 9999) dX6_ask_42 rfl ?_
        refine z_icmp_gt C 66 dX6_ask_45 (by decide) (fun h45 => ?_) (fun h45 => ?_)
        · skip
          refine z_aload_n C 0 dX6_ask_66 rfl ?_
          refine z_bipush C (v := (-6)) dX6_ask_67 rfl ?_
          refine z_callV1 C (c_X6_refuse l E _ _) ⟨by decide, rfl, rfl⟩ rfl rfl q_X6_51 ⟨by decide, by decide⟩ (Nat.le_of_ble_eq_true rfl) dX6_ask_69 (fun v F9 hp => ?_)
          obtain ⟨rfl, e9⟩ := hp
          rw [e9]
          clear e9 F9
          refine z_iret C0 dX6_ask_72 ?_
          exact xpo.ref (by simp only [kAsk]; simp [inT_f2 h45, h1, h34]) (by decide)
        · skip
          refine z_aload_n C 0 dX6_ask_48 rfl ?_
          refine xg_0_2 C kf_X6_22 dX6_ask_49 ?_
          refine xg_3 (k := 5) C (by decide) (by decide) kf_X6_179 dX6_ask_52 ?_
          refine z_istore_n (i := 3) C dX6_ask_55 rfl (by decide) ?_
          refine z_aload_n C 1 dX6_ask_56 rfl ?_
          refine xg_0_2 C kf_X6_22 dX6_ask_57 ?_
          refine z_iload_n C 3 dX6_ask_60 rfl ?_
          refine xp_3 (k := 5) C (by decide) (by decide) kf_X6_179 dX6_ask_61 ?_
          refine z_iload_n C 0 dX6_ask_64 rfl ?_
          refine z_iret C0 dX6_ask_65 ?_
          subst h34
          exact xpo.ok (by simp only [kAsk]; simp [inT_t h38 (Int32.not_lt.mp h45)]) rfl rfl
  · skip
    refine z_iload_n C 2 dX6_ask_4 rfl ?_
    refine z_if_lt C 32 dX6_ask_5 (by decide) (fun h5 => ?_) (fun h5 => ?_)
    · skip
      refine z_iload_n C 1 dX6_ask_32 rfl ?_
      refine z_iconst C (v := 1) dX6_ask_33 rfl ?_
      refine z_icmp_ne C 66 dX6_ask_34 (by decide) (fun h34 => ?_) (fun h34 => ?_)
      · skip
        refine z_aload_n C 0 dX6_ask_66 rfl ?_
        refine z_bipush C (v := (-6)) dX6_ask_67 rfl ?_
        refine z_callV1 C (c_X6_refuse l E _ _) ⟨by decide, rfl, rfl⟩ rfl rfl q_X6_51 ⟨by decide, by decide⟩ (Nat.le_of_ble_eq_true rfl) dX6_ask_69 (fun v F9 hp => ?_)
        obtain ⟨rfl, e9⟩ := hp
        rw [e9]
        clear e9 F9
        refine z_iret C0 dX6_ask_72 ?_
        exact xpo.ref (by simp only [kAsk]; simp [inT_f1 h5, h1, h34]) (by decide)
      · skip
        refine z_iload_n C 2 dX6_ask_37 rfl ?_
        refine z_if_lt C 66 dX6_ask_38 (by decide) (fun h38 => ?_) (fun h38 => ?_)
        · skip
          refine z_aload_n C 0 dX6_ask_66 rfl ?_
          refine z_bipush C (v := (-6)) dX6_ask_67 rfl ?_
          refine z_callV1 C (c_X6_refuse l E _ _) ⟨by decide, rfl, rfl⟩ rfl rfl q_X6_51 ⟨by decide, by decide⟩ (Nat.le_of_ble_eq_true rfl) dX6_ask_69 (fun v F9 hp => ?_)
          obtain ⟨rfl, e9⟩ := hp
          rw [e9]
          clear e9 F9
          refine z_iret C0 dX6_ask_72 ?_
          exact xpo.ref (by simp only [kAsk]; simp [inT_f1 h5, inT_f1 h38, h1, h34]) (by decide)
        · skip
          refine z_iload_n C 2 dX6_ask_41 rfl ?_
          refine z_sipush C (v := 9999) dX6_ask_42 rfl ?_
          refine z_icmp_gt C 66 dX6_ask_45 (by decide) (fun h45 => ?_) (fun h45 => ?_)
          · skip
            refine z_aload_n C 0 dX6_ask_66 rfl ?_
            refine z_bipush C (v := (-6)) dX6_ask_67 rfl ?_
            refine z_callV1 C (c_X6_refuse l E _ _) ⟨by decide, rfl, rfl⟩ rfl rfl q_X6_51 ⟨by decide, by decide⟩ (Nat.le_of_ble_eq_true rfl) dX6_ask_69 (fun v F9 hp => ?_)
            obtain ⟨rfl, e9⟩ := hp
            rw [e9]
            clear e9 F9
            refine z_iret C0 dX6_ask_72 ?_
            exact xpo.ref (by simp only [kAsk]; simp [inT_f1 h5, inT_f2 h45, h1, h34]) (by decide)
          · skip
            refine z_aload_n C 0 dX6_ask_48 rfl ?_
            refine xg_0_2 C kf_X6_22 dX6_ask_49 ?_
            refine xg_3 (k := 5) C (by decide) (by decide) kf_X6_179 dX6_ask_52 ?_
            refine z_istore_n (i := 3) C dX6_ask_55 rfl (by decide) ?_
            refine z_aload_n C 1 dX6_ask_56 rfl ?_
            refine xg_0_2 C kf_X6_22 dX6_ask_57 ?_
            refine z_iload_n C 3 dX6_ask_60 rfl ?_
            refine xp_3 (k := 5) C (by decide) (by decide) kf_X6_179 dX6_ask_61 ?_
            refine z_iload_n C 0 dX6_ask_64 rfl ?_
            refine z_iret C0 dX6_ask_65 ?_
            subst h34
            exact xpo.ok (by simp only [kAsk]; simp [inT_t h38 (Int32.not_lt.mp h45)]) rfl rfl
    · skip
      refine z_iload_n C 2 dX6_ask_8 rfl ?_
      refine z_bipush C (v := 99) dX6_ask_9 rfl ?_
      refine z_icmp_gt C 32 dX6_ask_11 (by decide) (fun h11 => ?_) (fun h11 => ?_)
      · skip
        refine z_iload_n C 1 dX6_ask_32 rfl ?_
        refine z_iconst C (v := 1) dX6_ask_33 rfl ?_
        refine z_icmp_ne C 66 dX6_ask_34 (by decide) (fun h34 => ?_) (fun h34 => ?_)
        · skip
          refine z_aload_n C 0 dX6_ask_66 rfl ?_
          refine z_bipush C (v := (-6)) dX6_ask_67 rfl ?_
          refine z_callV1 C (c_X6_refuse l E _ _) ⟨by decide, rfl, rfl⟩ rfl rfl q_X6_51 ⟨by decide, by decide⟩ (Nat.le_of_ble_eq_true rfl) dX6_ask_69 (fun v F9 hp => ?_)
          obtain ⟨rfl, e9⟩ := hp
          rw [e9]
          clear e9 F9
          refine z_iret C0 dX6_ask_72 ?_
          exact xpo.ref (by simp only [kAsk]; simp [inT_f2 h11, h1, h34]) (by decide)
        · skip
          refine z_iload_n C 2 dX6_ask_37 rfl ?_
          refine z_if_lt C 66 dX6_ask_38 (by decide) (fun h38 => ?_) (fun h38 => ?_)
          · skip
            refine z_aload_n C 0 dX6_ask_66 rfl ?_
            refine z_bipush C (v := (-6)) dX6_ask_67 rfl ?_
            refine z_callV1 C (c_X6_refuse l E _ _) ⟨by decide, rfl, rfl⟩ rfl rfl q_X6_51 ⟨by decide, by decide⟩ (Nat.le_of_ble_eq_true rfl) dX6_ask_69 (fun v F9 hp => ?_)
            obtain ⟨rfl, e9⟩ := hp
            rw [e9]
            clear e9 F9
            refine z_iret C0 dX6_ask_72 ?_
            exact xpo.ref (by simp only [kAsk]; simp [inT_f2 h11, inT_f1 h38, h1, h34]) (by decide)
          · skip
            refine z_iload_n C 2 dX6_ask_41 rfl ?_
            refine z_sipush C (v := 9999) dX6_ask_42 rfl ?_
            refine z_icmp_gt C 66 dX6_ask_45 (by decide) (fun h45 => ?_) (fun h45 => ?_)
            · skip
              refine z_aload_n C 0 dX6_ask_66 rfl ?_
              refine z_bipush C (v := (-6)) dX6_ask_67 rfl ?_
              refine z_callV1 C (c_X6_refuse l E _ _) ⟨by decide, rfl, rfl⟩ rfl rfl q_X6_51 ⟨by decide, by decide⟩ (Nat.le_of_ble_eq_true rfl) dX6_ask_69 (fun v F9 hp => ?_)
              obtain ⟨rfl, e9⟩ := hp
              rw [e9]
              clear e9 F9
              refine z_iret C0 dX6_ask_72 ?_
              exact xpo.ref (by simp only [kAsk]; simp [inT_f2 h11, inT_f2 h45, h1, h34]) (by decide)
            · skip
              refine z_aload_n C 0 dX6_ask_48 rfl ?_
              refine xg_0_2 C kf_X6_22 dX6_ask_49 ?_
              refine xg_3 (k := 5) C (by decide) (by decide) kf_X6_179 dX6_ask_52 ?_
              refine z_istore_n (i := 3) C dX6_ask_55 rfl (by decide) ?_
              refine z_aload_n C 1 dX6_ask_56 rfl ?_
              refine xg_0_2 C kf_X6_22 dX6_ask_57 ?_
              refine z_iload_n C 3 dX6_ask_60 rfl ?_
              refine xp_3 (k := 5) C (by decide) (by decide) kf_X6_179 dX6_ask_61 ?_
              refine z_iload_n C 0 dX6_ask_64 rfl ?_
              refine z_iret C0 dX6_ask_65 ?_
              subst h34
              exact xpo.ok (by simp only [kAsk]; simp [inT_t h38 (Int32.not_lt.mp h45)]) rfl rfl
      · skip
        refine z_aload_n C 0 dX6_ask_14 rfl ?_
        refine xg_0_2 C kf_X6_22 dX6_ask_15 ?_
        refine xg_3 (k := 4) C (by decide) (by decide) kf_X6_176 dX6_ask_18 ?_
        refine z_istore_n (i := 3) C dX6_ask_21 rfl (by decide) ?_
        refine z_aload_n C 1 dX6_ask_22 rfl ?_
        refine xg_0_2 C kf_X6_22 dX6_ask_23 ?_
        refine z_iload_n C 3 dX6_ask_26 rfl ?_
        refine xp_3 (k := 4) C (by decide) (by decide) kf_X6_176 dX6_ask_27 ?_
        refine z_iload_n C 0 dX6_ask_30 rfl ?_
        refine z_iret C0 dX6_ask_31 ?_
        subst h1
        exact xpo.ok (by simp only [kAsk]; simp [inT_t h5 (Int32.not_lt.mp h11)]) rfl rfl
set_option maxRecDepth 100000 in
set_option maxHeartbeats 4000000 in
theorem lp_X6_may {l : Launch} {E : zE} {K : zK} {s : State} (F : zF) (hI : XI F) (a : Int32) {c : Nat} (ea : a = nI c) (hc : c < nC (F.1 0).1) (h5 : inR a ((F.1 0).1.1 1) = true) (C0 : XR l E K cX6_may RX6 4 s 4 (some .int) (xpo F (kMay (F.1 0).1 a) (mayN (F.1 0).1 a.toNatClampNeg 16) (fun F2 => F2 = F))) : ∀ (n2 : Nat) (d : Nat), 16 - d < n2 → d ≤ 16 → Z K (XP E (F) s) 18 [(0, .ref (xadr E.2.2.1 (0, 0, 0))), (1, .int (nI c)), (2, .int (mayN (F.1 0).1 c d)), (3, .int (nI d))] [] := by
  have C := C0.c
  intro n2
  induction n2 with
  | zero => intro d hk hkl; exact absurd hk (Nat.not_lt_zero _)
  | succ n2 ih =>
    intro d hk hkl
    obtain ⟨hz, hw, hsh⟩ := id hI
    obtain ⟨⟨eS, lS⟩, ⟨eC, lC⟩⟩ := id hz
    have hc6 : c < 6 := by omega
    refine z_iload_n C 3 dX6_may_18 rfl ?_
    refine z_bipush C (v := 15) dX6_may_19 rfl ?_
    refine z_icmp_gt C 48 dX6_may_21 (by decide) (fun h21 => ?_) (fun h21 => ?_)
    · skip
      refine z_iload_n C 2 dX6_may_48 rfl ?_
      refine z_iret C0 dX6_may_49 ?_
      have e : d = 16 := by
        rcases Nat.lt_or_ge d 16 with q | q
        · exact absurd (nI_ltI (a := 15) (b := d) (by omega) (by omega) |>.mp h21) (by omega)
        · omega
      subst e ea
      exact xpo.ok (by simp [kMay, h5]) (by rw [nI_clamp (by omega)]) rfl
    · skip
      have hd2 : d < 16 := by
        rcases Nat.lt_or_ge d 16 with q | q
        · exact q
        · exact absurd (nI_lt (a := 15) (b := d) (by omega) (by omega)) h21
      refine z_aload_n C 0 dX6_may_24 rfl ?_
      refine xg_0_2 C kf_X6_22 dX6_may_25 ?_
      refine z_iload_n C 1 dX6_may_28 rfl ?_
      refine z_iload_n C 3 dX6_may_29 rfl ?_
      refine z_callV2 C (cg_X1_can l E _ (by decide) hz (by first | assumption | omega) _) ⟨(by decide), rfl⟩ rfl rfl q_X6_196 ⟨by decide, by decide⟩ (Nat.le_of_ble_eq_true rfl) dX6_may_30 (fun v F9 hp => ?_)
      obtain ⟨rfl, e9⟩ := hp
      rw [e9]
      clear e9 F9
      refine z_if_eq C 42 dX6_may_33 (by decide) (fun h33 => ?_) (fun h33 => ?_)
      · skip
        have h33 := bI_0 h33
        refine z_iinc C (v := nI (d + 1)) 3 dX6_may_42 rfl (nI_1 _) (by decide) ?_
        refine z_goto C 18 dX6_may_45 (by decide) ?_
        refine z_pick [1, 2, 3, 0] rfl ?_
        have q := ih (d + 1) (by omega) (by omega)
        simp only [mayN] at q
        rw [if_neg (by rw [h33]; decide)] at q
        exact q
      · skip
        have h33 := bI_1 h33
        refine z_iload_n C 2 dX6_may_36 rfl ?_
        refine z_iconst C (v := 1) dX6_may_37 rfl ?_
        refine z_iload_n C 3 dX6_may_38 rfl ?_
        refine z_ishl C dX6_may_39 ?_
        refine z_ior C dX6_may_40 ?_
        refine z_istore_n (i := 2) C dX6_may_41 rfl (by decide) ?_
        refine z_iinc C (v := nI (d + 1)) 3 dX6_may_42 rfl (nI_1 _) (by decide) ?_
        refine z_goto C 18 dX6_may_45 (by decide) ?_
        refine z_pick [2, 3, 1, 0] rfl ?_
        have q := ih (d + 1) (by omega) (by omega)
        simp only [mayN] at q
        rw [if_pos h33] at q
        exact q
set_option maxRecDepth 100000 in
set_option maxHeartbeats 4000000 in
theorem c_X6_may (l : Launch) (E : zE) (F : zF) (hI : XI F) (a : Int32) : XM l E yX6_may cX6_may 4 (some .int) 4 [.ref (xadr E.2.2.1 (0, 0, 0)), .int (a)] (F) (xpo F (kMay (F.1 0).1 a) (mayN (F.1 0).1 a.toNatClampNeg 16) (fun F2 => F2 = F)) := by
  refine XM.mk kq_X6 (Nat.le_of_ble_eq_true rfl) (fun K s C0 => ?_)
  have C := C0.c
  obtain ⟨hz, hw, hsh⟩ := id hI
  obtain ⟨⟨eS, lS⟩, ⟨eC, lC⟩⟩ := id hz
  refine z_aload_n C 0 dX6_may_0 rfl ?_
  refine z_iload_n C 1 dX6_may_1 rfl ?_
  refine z_callV1 C (c_X6_isChild l E _ _) ⟨by decide, rfl, rfl⟩ rfl rfl q_X6_149 ⟨by decide, by decide⟩ (Nat.le_of_ble_eq_true rfl) dX6_may_2 (fun v F9 hp => ?_)
  obtain ⟨rfl, e9⟩ := hp
  rw [e9]
  clear e9 F9
  refine z_if_ne C 14 dX6_may_5 (by decide) (fun h5 => ?_) (fun h5 => ?_)
  · skip
    have h5 := bI_1 h5
    obtain ⟨c, hc, rfl⟩ := inR_of (n := nC (F.1 0).1) (by rw [← eC]; exact h5) (by omega)
    have hc6 : c < 6 := by omega
    refine z_iconst C (v := 0) dX6_may_14 rfl ?_
    refine z_istore_n (i := 2) C dX6_may_15 rfl (by decide) ?_
    refine z_iconst C (v := 0) dX6_may_16 rfl ?_
    refine z_istore_n (i := 3) C dX6_may_17 rfl (by decide) ?_
    refine z_pick [2, 3, 1, 0] rfl ?_
    exact lp_X6_may F hI (nI c) rfl hc h5 C0 17 0 (by omega) (by omega)
  · skip
    have h5 := bI_0 h5
    refine z_aload_n C 0 dX6_may_8 rfl ?_
    refine z_iconst C (v := (-1)) dX6_may_9 rfl ?_
    refine z_callV1 C (c_X6_refuse l E _ _) ⟨by decide, rfl, rfl⟩ rfl rfl q_X6_51 ⟨by decide, by decide⟩ (Nat.le_of_ble_eq_true rfl) dX6_may_10 (fun v F9 hp => ?_)
    obtain ⟨rfl, e9⟩ := hp
    rw [e9]
    clear e9 F9
    refine z_iret C0 dX6_may_13 ?_
    exact xpo.ref (by simp [kMay, h5]) (by decide)
set_option maxRecDepth 100000 in
set_option maxHeartbeats 4000000 in
theorem c_X6_foresee (l : Launch) (E : zE) (F : zF) (hI : XI F) (rule : Int32) {n : Nat} (hn : n < 1000) : XM l E yX6_foresee cX6_foresee 3 (some .int) 6 [.ref (xadr E.2.2.1 (0, 0, 0)), .int (rule), .int (nI n)] (F) (fun v F2 => ∃ T, F2 = sG F 1 T ∧ eqv T.1 (run rule n (F.1 0).1) ∧ v = some (.int ((run rule n (F.1 0).1).1 6 - (F.1 0).1.1 6))) := by
  refine XM.mk kq_X6 (Nat.le_of_ble_eq_true rfl) (fun K s C0 => ?_)
  have C := C0.c
  obtain ⟨hz, hw, hsh⟩ := id hI
  obtain ⟨⟨eS, lS⟩, ⟨eC, lC⟩⟩ := id hz
  refine z_aload_n C 0 dX6_foresee_0 rfl ?_
  refine xg_0_3 C kf_X6_26 dX6_foresee_1 ?_
  refine z_aload_n C 0 dX6_foresee_4 rfl ?_
  refine xg_0_2 C kf_X6_22 dX6_foresee_5 ?_
  refine z_callV1 C (cg_X1_takeAll l E _ (gi := 1) (by decide) (gj := 0) (by decide) (by decide) hz) ⟨(by decide), rfl⟩ rfl rfl q_X6_192 ⟨by decide, by decide⟩ (Nat.le_of_ble_eq_true rfl) dX6_foresee_8 (fun v F9 hp => ?_)
  obtain ⟨rfl, e9⟩ := hp
  rw [e9]
  clear e9 F9
  have eT := lay_eqv (F.1 0).1 (F.1 1).1
  have zT : gz (layG (F.1 0).1 (F.1 1).1) := eT.z hz
  have wT : wn (layG (F.1 0).1 (F.1 1).1) := eT.w hw
  refine z_aload_n C 0 dX6_foresee_11 rfl ?_
  refine xg_0_3 C kf_X6_26 dX6_foresee_12 ?_
  refine z_iload_n C 1 dX6_foresee_15 rfl ?_
  refine z_iload_n C 2 dX6_foresee_16 rfl ?_
  refine z_callV2 C (cg_X1_passMinutes l E _ (gi := 1) (by decide) zT wT (by first | assumption | omega)) ⟨(by decide), rfl⟩ rfl rfl q_X6_222 ⟨by decide, by decide⟩ (Nat.le_of_ble_eq_true rfl) dX6_foresee_17 (fun v F9 hp => ?_)
  obtain ⟨rfl, e9⟩ := hp
  rw [e9]
  clear e9 F9
  refine z_aload_n C 0 dX6_foresee_20 rfl ?_
  refine xg_0_3 C kf_X6_26 dX6_foresee_21 ?_
  refine xg_3 (k := 6) C (by decide) (by decide) kf_X6_225 dX6_foresee_24 ?_
  refine z_aload_n C 0 dX6_foresee_27 rfl ?_
  refine xg_0_2 C kf_X6_22 dX6_foresee_28 ?_
  refine xg_3 (k := 6) C (by decide) (by decide) kf_X6_225 dX6_foresee_31 ?_
  refine z_isub C dX6_foresee_34 ?_
  refine z_iret C0 dX6_foresee_35 ?_
  have eR := e_run (rule := rule) (n := n) (A := (layG (F.1 0).1 (F.1 1).1, (F.1 1).2)) eT hz
  refine ⟨minutes rule n (layG (F.1 0).1 (F.1 1).1, (F.1 1).2), sG_sG _ _ _ _, eR, ?_⟩
  rw [← eR.1 6 (by omega)]
  rfl
set_option maxRecDepth 100000 in
set_option maxHeartbeats 4000000 in
theorem c_X6_behind (l : Launch) (E : zE) (F : zF) (hI : XI F) (rule n a w : Int32) : XM l E yX6_behind cX6_behind 6 (some .int) 7 [.ref (xadr E.2.2.1 (0, 0, 0)), .int (rule), .int (n), .int (a), .int (w)] (F) (xpo F (kBehind (F.1 0).1 rule n a w) (aBehind (run rule n.toNatClampNeg (F.1 0).1) a.toNatClampNeg w) (thO F)) := by
  refine XM.mk kq_X6 (Nat.le_of_ble_eq_true rfl) (fun K s C0 => ?_)
  have C := C0.c
  obtain ⟨hz, hw, hsh⟩ := id hI
  obtain ⟨⟨eS, lS⟩, ⟨eC, lC⟩⟩ := id hz
  refine z_aload_n C 0 dX6_behind_0 rfl ?_
  refine z_iload_n C 3 dX6_behind_1 rfl ?_
  refine z_callV1 C (c_X6_isChild l E _ _) ⟨by decide, rfl, rfl⟩ rfl rfl q_X6_149 ⟨by decide, by decide⟩ (Nat.le_of_ble_eq_true rfl) dX6_behind_2 (fun v F9 hp => ?_)
  obtain ⟨rfl, e9⟩ := hp
  rw [e9]
  clear e9 F9
  refine z_if_ne C 14 dX6_behind_5 (by decide) (fun h5 => ?_) (fun h5 => ?_)
  · skip
    have h5 := bI_1 h5
    refine z_iload C 4 dX6_behind_14 rfl ?_
    refine z_iconst C (v := 1) dX6_behind_16 rfl ?_
    refine z_icmp_eq C 39 dX6_behind_17 (by decide) (fun h17 => ?_) (fun h17 => ?_)
    · skip
      refine z_iload_n C 1 dX6_behind_39 rfl ?_
      refine z_callS1 C (c_X6_isRule l E _ _) q_X6_199 ⟨by decide, by decide⟩ (Nat.le_of_ble_eq_true rfl) dX6_behind_40 (fun v F9 hp => ?_)
      obtain ⟨rfl, e9⟩ := hp
      rw [e9]
      clear e9 F9
      refine z_if_eq C 53 dX6_behind_43 (by decide) (fun h43 => ?_) (fun h43 => ?_)
      · skip
        have h43 := bI_0 h43
        refine z_aload_n C 0 dX6_behind_53 rfl ?_
        refine z_bipush C (v := (-6)) dX6_behind_54 rfl ?_
        refine z_callV1 C (c_X6_refuse l E _ _) ⟨by decide, rfl, rfl⟩ rfl rfl q_X6_51 ⟨by decide, by decide⟩ (Nat.le_of_ble_eq_true rfl) dX6_behind_56 (fun v F9 hp => ?_)
        obtain ⟨rfl, e9⟩ := hp
        rw [e9]
        clear e9 F9
        refine z_iret C0 dX6_behind_59 ?_
        exact xpo.ref (by simp [kBehind, okRN, h5, h17, h43]) (by decide)
      · skip
        have h43 := bI_1 h43
        refine z_iload_n C 2 dX6_behind_46 rfl ?_
        refine z_callS1 C (c_X6_isTime l E _ _) q_X6_202 ⟨by decide, by decide⟩ (Nat.le_of_ble_eq_true rfl) dX6_behind_47 (fun v F9 hp => ?_)
        obtain ⟨rfl, e9⟩ := hp
        rw [e9]
        clear e9 F9
        refine z_if_ne C 60 dX6_behind_50 (by decide) (fun h50 => ?_) (fun h50 => ?_)
        · skip
          have h50 := bI_1 h50
          obtain ⟨c, hc, rfl⟩ := inR_of (n := nC (F.1 0).1) (by rw [← eC]; exact h5) (by omega)
          have hc6 : c < 6 := by omega
          obtain ⟨nn, hnn, rfl⟩ := inT_of (n := 240) h50 (by omega)
          refine z_aload_n C 0 dX6_behind_60 rfl ?_
          refine z_iload_n C 1 dX6_behind_61 rfl ?_
          refine z_iload_n C 2 dX6_behind_62 rfl ?_
          refine z_callV2 C (c_X6_foresee l E _ hI _ (by first | assumption | omega)) ⟨by decide, rfl, rfl⟩ rfl rfl q_X6_205 ⟨by decide, by decide⟩ (Nat.le_of_ble_eq_true rfl) dX6_behind_63 (fun v F9 hp => ?_)
          obtain ⟨T, e9, hT, rfl⟩ := hp
          rw [e9]
          clear e9 F9
          have hzT : gz T.1 := (hT.tr (eqv.rf _)).z (sk_run.z hz)
          have eTS : nS T.1 = nS (F.1 0).1 := hT.S.trans sk_run.S
          have eTC : nC T.1 = nC (F.1 0).1 := hT.C.trans sk_run.C
          refine z_pop C dX6_behind_66 rfl ?_
          refine z_aload_n C 0 dX6_behind_67 rfl ?_
          refine xg_0_3 C kf_X6_26 dX6_behind_68 ?_
          refine xg_3c C (by decide) kf_X6_152 dX6_behind_71 ?_
          refine z_iload_n C 3 dX6_behind_74 rfl ?_
          refine xa_5 C (by decide) c rfl (by first | assumption | omega) dX6_behind_75 ?_
          refine z_astore C dX6_behind_76 (by decide) ?_
          refine z_iload C 5 dX6_behind_78 rfl ?_
          refine z_iconst C (v := 1) dX6_behind_80 rfl ?_
          refine z_icmp_ne C 90 dX6_behind_81 (by decide) (fun h81 => ?_) (fun h81 => ?_)
          · skip
            refine z_iload C 5 dX6_behind_90 rfl ?_
            refine z_iconst C (v := 2) dX6_behind_92 rfl ?_
            refine z_icmp_ne C 104 dX6_behind_93 (by decide) (fun h93 => ?_) (fun h93 => ?_)
            · skip
              refine z_aload C 0 dX6_behind_104 rfl ?_
              refine xg_7 (k := 4) C (by decide) (by first | assumption | omega) (by decide) kf_X6_170 dX6_behind_106 ?_
              refine z_iret C0 dX6_behind_109 ?_
              exact xpo.ok (by simp [kBehind, okRN, h5, h17, h43, h50, h81, h93]) (by rw [nI_clamp (by omega), nI_clamp (by omega)]; unfold aBehind; rw [if_neg h81, if_neg h93]; exact hT.2.2 c (by rw [sk_run.C]; exact hc) 4 (by omega)) ⟨T, rfl⟩
            · skip
              refine z_aload C 0 dX6_behind_96 rfl ?_
              refine xg_7 (k := 2) C (by decide) (by first | assumption | omega) (by decide) kf_X6_164 dX6_behind_98 ?_
              refine z_goto C 109 dX6_behind_101 (by decide) ?_
              refine z_iret C0 dX6_behind_109 ?_
              exact xpo.ok (by simp [kBehind, okRN, h5, h17, h43, h50, h81, h93]) (by rw [nI_clamp (by omega), nI_clamp (by omega)]; unfold aBehind; rw [if_neg h81, if_pos h93]; exact hT.2.2 c (by rw [sk_run.C]; exact hc) 2 (by omega)) ⟨T, rfl⟩
          · skip
            refine z_aload C 0 dX6_behind_84 rfl ?_
            refine xg_7 (k := 1) C (by decide) (by first | assumption | omega) (by decide) kf_X6_161 dX6_behind_86 ?_
            refine z_iret C0 dX6_behind_89 ?_
            exact xpo.ok (by simp [kBehind, okRN, h5, h17, h43, h50, h81]) (by rw [nI_clamp (by omega), nI_clamp (by omega)]; unfold aBehind; rw [if_pos h81]; exact hT.2.2 c (by rw [sk_run.C]; exact hc) 1 (by omega)) ⟨T, rfl⟩
        · skip
          have h50 := bI_0 h50
          refine z_aload_n C 0 dX6_behind_53 rfl ?_
          refine z_bipush C (v := (-6)) dX6_behind_54 rfl ?_
          refine z_callV1 C (c_X6_refuse l E _ _) ⟨by decide, rfl, rfl⟩ rfl rfl q_X6_51 ⟨by decide, by decide⟩ (Nat.le_of_ble_eq_true rfl) dX6_behind_56 (fun v F9 hp => ?_)
          obtain ⟨rfl, e9⟩ := hp
          rw [e9]
          clear e9 F9
          refine z_iret C0 dX6_behind_59 ?_
          exact xpo.ref (by simp [kBehind, okRN, h5, h17, h43, h50]) (by decide)
    · skip
      refine z_iload C 4 dX6_behind_20 rfl ?_
      refine z_iconst C (v := 2) dX6_behind_22 rfl ?_
      refine z_icmp_eq C 39 dX6_behind_23 (by decide) (fun h23 => ?_) (fun h23 => ?_)
      · skip
        refine z_iload_n C 1 dX6_behind_39 rfl ?_
        refine z_callS1 C (c_X6_isRule l E _ _) q_X6_199 ⟨by decide, by decide⟩ (Nat.le_of_ble_eq_true rfl) dX6_behind_40 (fun v F9 hp => ?_)
        obtain ⟨rfl, e9⟩ := hp
        rw [e9]
        clear e9 F9
        refine z_if_eq C 53 dX6_behind_43 (by decide) (fun h43 => ?_) (fun h43 => ?_)
        · skip
          have h43 := bI_0 h43
          refine z_aload_n C 0 dX6_behind_53 rfl ?_
          refine z_bipush C (v := (-6)) dX6_behind_54 rfl ?_
          refine z_callV1 C (c_X6_refuse l E _ _) ⟨by decide, rfl, rfl⟩ rfl rfl q_X6_51 ⟨by decide, by decide⟩ (Nat.le_of_ble_eq_true rfl) dX6_behind_56 (fun v F9 hp => ?_)
          obtain ⟨rfl, e9⟩ := hp
          rw [e9]
          clear e9 F9
          refine z_iret C0 dX6_behind_59 ?_
          exact xpo.ref (by simp [kBehind, okRN, h5, h17, h23, h43]) (by decide)
        · skip
          have h43 := bI_1 h43
          refine z_iload_n C 2 dX6_behind_46 rfl ?_
          refine z_callS1 C (c_X6_isTime l E _ _) q_X6_202 ⟨by decide, by decide⟩ (Nat.le_of_ble_eq_true rfl) dX6_behind_47 (fun v F9 hp => ?_)
          obtain ⟨rfl, e9⟩ := hp
          rw [e9]
          clear e9 F9
          refine z_if_ne C 60 dX6_behind_50 (by decide) (fun h50 => ?_) (fun h50 => ?_)
          · skip
            have h50 := bI_1 h50
            obtain ⟨c, hc, rfl⟩ := inR_of (n := nC (F.1 0).1) (by rw [← eC]; exact h5) (by omega)
            have hc6 : c < 6 := by omega
            obtain ⟨nn, hnn, rfl⟩ := inT_of (n := 240) h50 (by omega)
            refine z_aload_n C 0 dX6_behind_60 rfl ?_
            refine z_iload_n C 1 dX6_behind_61 rfl ?_
            refine z_iload_n C 2 dX6_behind_62 rfl ?_
            refine z_callV2 C (c_X6_foresee l E _ hI _ (by first | assumption | omega)) ⟨by decide, rfl, rfl⟩ rfl rfl q_X6_205 ⟨by decide, by decide⟩ (Nat.le_of_ble_eq_true rfl) dX6_behind_63 (fun v F9 hp => ?_)
            obtain ⟨T, e9, hT, rfl⟩ := hp
            rw [e9]
            clear e9 F9
            have hzT : gz T.1 := (hT.tr (eqv.rf _)).z (sk_run.z hz)
            have eTS : nS T.1 = nS (F.1 0).1 := hT.S.trans sk_run.S
            have eTC : nC T.1 = nC (F.1 0).1 := hT.C.trans sk_run.C
            refine z_pop C dX6_behind_66 rfl ?_
            refine z_aload_n C 0 dX6_behind_67 rfl ?_
            refine xg_0_3 C kf_X6_26 dX6_behind_68 ?_
            refine xg_3c C (by decide) kf_X6_152 dX6_behind_71 ?_
            refine z_iload_n C 3 dX6_behind_74 rfl ?_
            refine xa_5 C (by decide) c rfl (by first | assumption | omega) dX6_behind_75 ?_
            refine z_astore C dX6_behind_76 (by decide) ?_
            refine z_iload C 5 dX6_behind_78 rfl ?_
            refine z_iconst C (v := 1) dX6_behind_80 rfl ?_
            refine z_icmp_ne C 90 dX6_behind_81 (by decide) (fun h81 => ?_) (fun h81 => ?_)
            · skip
              refine z_iload C 5 dX6_behind_90 rfl ?_
              refine z_iconst C (v := 2) dX6_behind_92 rfl ?_
              refine z_icmp_ne C 104 dX6_behind_93 (by decide) (fun h93 => ?_) (fun h93 => ?_)
              · skip
                refine z_aload C 0 dX6_behind_104 rfl ?_
                refine xg_7 (k := 4) C (by decide) (by first | assumption | omega) (by decide) kf_X6_170 dX6_behind_106 ?_
                refine z_iret C0 dX6_behind_109 ?_
                exact xpo.ok (by simp [kBehind, okRN, h5, h17, h23, h43, h50, h81, h93]) (by rw [nI_clamp (by omega), nI_clamp (by omega)]; unfold aBehind; rw [if_neg h81, if_neg h93]; exact hT.2.2 c (by rw [sk_run.C]; exact hc) 4 (by omega)) ⟨T, rfl⟩
              · skip
                refine z_aload C 0 dX6_behind_96 rfl ?_
                refine xg_7 (k := 2) C (by decide) (by first | assumption | omega) (by decide) kf_X6_164 dX6_behind_98 ?_
                refine z_goto C 109 dX6_behind_101 (by decide) ?_
                refine z_iret C0 dX6_behind_109 ?_
                exact xpo.ok (by simp [kBehind, okRN, h5, h17, h23, h43, h50, h81, h93]) (by rw [nI_clamp (by omega), nI_clamp (by omega)]; unfold aBehind; rw [if_neg h81, if_pos h93]; exact hT.2.2 c (by rw [sk_run.C]; exact hc) 2 (by omega)) ⟨T, rfl⟩
            · skip
              refine z_aload C 0 dX6_behind_84 rfl ?_
              refine xg_7 (k := 1) C (by decide) (by first | assumption | omega) (by decide) kf_X6_161 dX6_behind_86 ?_
              refine z_iret C0 dX6_behind_89 ?_
              exact xpo.ok (by simp [kBehind, okRN, h5, h17, h23, h43, h50, h81]) (by rw [nI_clamp (by omega), nI_clamp (by omega)]; unfold aBehind; rw [if_pos h81]; exact hT.2.2 c (by rw [sk_run.C]; exact hc) 1 (by omega)) ⟨T, rfl⟩
          · skip
            have h50 := bI_0 h50
            refine z_aload_n C 0 dX6_behind_53 rfl ?_
            refine z_bipush C (v := (-6)) dX6_behind_54 rfl ?_
            refine z_callV1 C (c_X6_refuse l E _ _) ⟨by decide, rfl, rfl⟩ rfl rfl q_X6_51 ⟨by decide, by decide⟩ (Nat.le_of_ble_eq_true rfl) dX6_behind_56 (fun v F9 hp => ?_)
            obtain ⟨rfl, e9⟩ := hp
            rw [e9]
            clear e9 F9
            refine z_iret C0 dX6_behind_59 ?_
            exact xpo.ref (by simp [kBehind, okRN, h5, h17, h23, h43, h50]) (by decide)
      · skip
        refine z_iload C 4 dX6_behind_26 rfl ?_
        refine z_iconst C (v := 4) dX6_behind_28 rfl ?_
        refine z_icmp_eq C 39 dX6_behind_29 (by decide) (fun h29 => ?_) (fun h29 => ?_)
        · skip
          refine z_iload_n C 1 dX6_behind_39 rfl ?_
          refine z_callS1 C (c_X6_isRule l E _ _) q_X6_199 ⟨by decide, by decide⟩ (Nat.le_of_ble_eq_true rfl) dX6_behind_40 (fun v F9 hp => ?_)
          obtain ⟨rfl, e9⟩ := hp
          rw [e9]
          clear e9 F9
          refine z_if_eq C 53 dX6_behind_43 (by decide) (fun h43 => ?_) (fun h43 => ?_)
          · skip
            have h43 := bI_0 h43
            refine z_aload_n C 0 dX6_behind_53 rfl ?_
            refine z_bipush C (v := (-6)) dX6_behind_54 rfl ?_
            refine z_callV1 C (c_X6_refuse l E _ _) ⟨by decide, rfl, rfl⟩ rfl rfl q_X6_51 ⟨by decide, by decide⟩ (Nat.le_of_ble_eq_true rfl) dX6_behind_56 (fun v F9 hp => ?_)
            obtain ⟨rfl, e9⟩ := hp
            rw [e9]
            clear e9 F9
            refine z_iret C0 dX6_behind_59 ?_
            exact xpo.ref (by simp [kBehind, okRN, h5, h17, h23, h29, h43]) (by decide)
          · skip
            have h43 := bI_1 h43
            refine z_iload_n C 2 dX6_behind_46 rfl ?_
            refine z_callS1 C (c_X6_isTime l E _ _) q_X6_202 ⟨by decide, by decide⟩ (Nat.le_of_ble_eq_true rfl) dX6_behind_47 (fun v F9 hp => ?_)
            obtain ⟨rfl, e9⟩ := hp
            rw [e9]
            clear e9 F9
            refine z_if_ne C 60 dX6_behind_50 (by decide) (fun h50 => ?_) (fun h50 => ?_)
            · skip
              have h50 := bI_1 h50
              obtain ⟨c, hc, rfl⟩ := inR_of (n := nC (F.1 0).1) (by rw [← eC]; exact h5) (by omega)
              have hc6 : c < 6 := by omega
              obtain ⟨nn, hnn, rfl⟩ := inT_of (n := 240) h50 (by omega)
              refine z_aload_n C 0 dX6_behind_60 rfl ?_
              refine z_iload_n C 1 dX6_behind_61 rfl ?_
              refine z_iload_n C 2 dX6_behind_62 rfl ?_
              refine z_callV2 C (c_X6_foresee l E _ hI _ (by first | assumption | omega)) ⟨by decide, rfl, rfl⟩ rfl rfl q_X6_205 ⟨by decide, by decide⟩ (Nat.le_of_ble_eq_true rfl) dX6_behind_63 (fun v F9 hp => ?_)
              obtain ⟨T, e9, hT, rfl⟩ := hp
              rw [e9]
              clear e9 F9
              have hzT : gz T.1 := (hT.tr (eqv.rf _)).z (sk_run.z hz)
              have eTS : nS T.1 = nS (F.1 0).1 := hT.S.trans sk_run.S
              have eTC : nC T.1 = nC (F.1 0).1 := hT.C.trans sk_run.C
              refine z_pop C dX6_behind_66 rfl ?_
              refine z_aload_n C 0 dX6_behind_67 rfl ?_
              refine xg_0_3 C kf_X6_26 dX6_behind_68 ?_
              refine xg_3c C (by decide) kf_X6_152 dX6_behind_71 ?_
              refine z_iload_n C 3 dX6_behind_74 rfl ?_
              refine xa_5 C (by decide) c rfl (by first | assumption | omega) dX6_behind_75 ?_
              refine z_astore C dX6_behind_76 (by decide) ?_
              refine z_iload C 5 dX6_behind_78 rfl ?_
              refine z_iconst C (v := 1) dX6_behind_80 rfl ?_
              refine z_icmp_ne C 90 dX6_behind_81 (by decide) (fun h81 => ?_) (fun h81 => ?_)
              · skip
                refine z_iload C 5 dX6_behind_90 rfl ?_
                refine z_iconst C (v := 2) dX6_behind_92 rfl ?_
                refine z_icmp_ne C 104 dX6_behind_93 (by decide) (fun h93 => ?_) (fun h93 => ?_)
                · skip
                  refine z_aload C 0 dX6_behind_104 rfl ?_
                  refine xg_7 (k := 4) C (by decide) (by first | assumption | omega) (by decide) kf_X6_170 dX6_behind_106 ?_
                  refine z_iret C0 dX6_behind_109 ?_
                  exact xpo.ok (by simp [kBehind, okRN, h5, h17, h23, h29, h43, h50, h81, h93]) (by rw [nI_clamp (by omega), nI_clamp (by omega)]; unfold aBehind; rw [if_neg h81, if_neg h93]; exact hT.2.2 c (by rw [sk_run.C]; exact hc) 4 (by omega)) ⟨T, rfl⟩
                · skip
                  refine z_aload C 0 dX6_behind_96 rfl ?_
                  refine xg_7 (k := 2) C (by decide) (by first | assumption | omega) (by decide) kf_X6_164 dX6_behind_98 ?_
                  refine z_goto C 109 dX6_behind_101 (by decide) ?_
                  refine z_iret C0 dX6_behind_109 ?_
                  exact xpo.ok (by simp [kBehind, okRN, h5, h17, h23, h29, h43, h50, h81, h93]) (by rw [nI_clamp (by omega), nI_clamp (by omega)]; unfold aBehind; rw [if_neg h81, if_pos h93]; exact hT.2.2 c (by rw [sk_run.C]; exact hc) 2 (by omega)) ⟨T, rfl⟩
              · skip
                refine z_aload C 0 dX6_behind_84 rfl ?_
                refine xg_7 (k := 1) C (by decide) (by first | assumption | omega) (by decide) kf_X6_161 dX6_behind_86 ?_
                refine z_iret C0 dX6_behind_89 ?_
                exact xpo.ok (by simp [kBehind, okRN, h5, h17, h23, h29, h43, h50, h81]) (by rw [nI_clamp (by omega), nI_clamp (by omega)]; unfold aBehind; rw [if_pos h81]; exact hT.2.2 c (by rw [sk_run.C]; exact hc) 1 (by omega)) ⟨T, rfl⟩
            · skip
              have h50 := bI_0 h50
              refine z_aload_n C 0 dX6_behind_53 rfl ?_
              refine z_bipush C (v := (-6)) dX6_behind_54 rfl ?_
              refine z_callV1 C (c_X6_refuse l E _ _) ⟨by decide, rfl, rfl⟩ rfl rfl q_X6_51 ⟨by decide, by decide⟩ (Nat.le_of_ble_eq_true rfl) dX6_behind_56 (fun v F9 hp => ?_)
              obtain ⟨rfl, e9⟩ := hp
              rw [e9]
              clear e9 F9
              refine z_iret C0 dX6_behind_59 ?_
              exact xpo.ref (by simp [kBehind, okRN, h5, h17, h23, h29, h43, h50]) (by decide)
        · skip
          refine z_aload_n C 0 dX6_behind_32 rfl ?_
          refine z_bipush C (v := (-5)) dX6_behind_33 rfl ?_
          refine z_callV1 C (c_X6_refuse l E _ _) ⟨by decide, rfl, rfl⟩ rfl rfl q_X6_51 ⟨by decide, by decide⟩ (Nat.le_of_ble_eq_true rfl) dX6_behind_35 (fun v F9 hp => ?_)
          obtain ⟨rfl, e9⟩ := hp
          rw [e9]
          clear e9 F9
          refine z_iret C0 dX6_behind_38 ?_
          exact xpo.ref (by simp [kBehind, h5, h17, h23, h29]) (by decide)
  · skip
    have h5 := bI_0 h5
    refine z_aload_n C 0 dX6_behind_8 rfl ?_
    refine z_iconst C (v := (-1)) dX6_behind_9 rfl ?_
    refine z_callV1 C (c_X6_refuse l E _ _) ⟨by decide, rfl, rfl⟩ rfl rfl q_X6_51 ⟨by decide, by decide⟩ (Nat.le_of_ble_eq_true rfl) dX6_behind_10 (fun v F9 hp => ?_)
    obtain ⟨rfl, e9⟩ := hp
    rw [e9]
    clear e9 F9
    refine z_iret C0 dX6_behind_13 ?_
    exact xpo.ref (by simp [kBehind, h5]) (by decide)
set_option maxRecDepth 100000 in
set_option maxHeartbeats 4000000 in
theorem c_X6_asks (l : Launch) (E : zE) (F : zF) (hI : XI F) (rule n p : Int32) : XM l E yX6_asks cX6_asks 4 (some .int) 7 [.ref (xadr E.2.2.1 (0, 0, 0)), .int (rule), .int (n), .int (p)] (F) (xpo F (kAsks (F.1 0).1 rule n p) (askS (run rule n.toNatClampNeg (F.1 0).1) p.toNatClampNeg) (thO F)) := by
  refine XM.mk kq_X6 (Nat.le_of_ble_eq_true rfl) (fun K s C0 => ?_)
  have C := C0.c
  obtain ⟨hz, hw, hsh⟩ := id hI
  obtain ⟨⟨eS, lS⟩, ⟨eC, lC⟩⟩ := id hz
  refine z_aload_n C 0 dX6_asks_0 rfl ?_
  refine z_iload_n C 3 dX6_asks_1 rfl ?_
  refine z_callV1 C (c_X6_isShop l E _ _) ⟨by decide, rfl, rfl⟩ rfl rfl q_X6_94 ⟨by decide, by decide⟩ (Nat.le_of_ble_eq_true rfl) dX6_asks_2 (fun v F9 hp => ?_)
  obtain ⟨rfl, e9⟩ := hp
  rw [e9]
  clear e9 F9
  refine z_if_ne C 14 dX6_asks_5 (by decide) (fun h5 => ?_) (fun h5 => ?_)
  · skip
    have h5 := bI_1 h5
    refine z_iload_n C 1 dX6_asks_14 rfl ?_
    refine z_callS1 C (c_X6_isRule l E _ _) q_X6_199 ⟨by decide, by decide⟩ (Nat.le_of_ble_eq_true rfl) dX6_asks_15 (fun v F9 hp => ?_)
    obtain ⟨rfl, e9⟩ := hp
    rw [e9]
    clear e9 F9
    refine z_if_eq C 28 dX6_asks_18 (by decide) (fun h18 => ?_) (fun h18 => ?_)
    · skip
      have h18 := bI_0 h18
      refine z_aload_n C 0 dX6_asks_28 rfl ?_
      refine z_bipush C (v := (-6)) dX6_asks_29 rfl ?_
      refine z_callV1 C (c_X6_refuse l E _ _) ⟨by decide, rfl, rfl⟩ rfl rfl q_X6_51 ⟨by decide, by decide⟩ (Nat.le_of_ble_eq_true rfl) dX6_asks_31 (fun v F9 hp => ?_)
      obtain ⟨rfl, e9⟩ := hp
      rw [e9]
      clear e9 F9
      refine z_iret C0 dX6_asks_34 ?_
      exact xpo.ref (by simp [kAsks, okRN, h5, h18]) (by decide)
    · skip
      have h18 := bI_1 h18
      refine z_iload_n C 2 dX6_asks_21 rfl ?_
      refine z_callS1 C (c_X6_isTime l E _ _) q_X6_202 ⟨by decide, by decide⟩ (Nat.le_of_ble_eq_true rfl) dX6_asks_22 (fun v F9 hp => ?_)
      obtain ⟨rfl, e9⟩ := hp
      rw [e9]
      clear e9 F9
      refine z_if_ne C 35 dX6_asks_25 (by decide) (fun h25 => ?_) (fun h25 => ?_)
      · skip
        have h25 := bI_1 h25
        obtain ⟨j, hj, rfl⟩ := inR_of (n := nS (F.1 0).1) (by rw [← eS]; exact h5) (by omega)
        have hj6 : j < 6 := by omega
        obtain ⟨nn, hnn, rfl⟩ := inT_of (n := 240) h25 (by omega)
        refine z_aload_n C 0 dX6_asks_35 rfl ?_
        refine z_iload_n C 1 dX6_asks_36 rfl ?_
        refine z_iload_n C 2 dX6_asks_37 rfl ?_
        refine z_callV2 C (c_X6_foresee l E _ hI _ (by first | assumption | omega)) ⟨by decide, rfl, rfl⟩ rfl rfl q_X6_205 ⟨by decide, by decide⟩ (Nat.le_of_ble_eq_true rfl) dX6_asks_38 (fun v F9 hp => ?_)
        obtain ⟨T, e9, hT, rfl⟩ := hp
        rw [e9]
        clear e9 F9
        have hzT : gz T.1 := (hT.tr (eqv.rf _)).z (sk_run.z hz)
        have eTS : nS T.1 = nS (F.1 0).1 := hT.S.trans sk_run.S
        have eTC : nC T.1 = nC (F.1 0).1 := hT.C.trans sk_run.C
        refine z_pop C dX6_asks_41 rfl ?_
        refine z_aload_n C 0 dX6_asks_42 rfl ?_
        refine xg_0_3 C kf_X6_26 dX6_asks_43 ?_
        refine xg_3s C (by decide) kf_X6_104 dX6_asks_46 ?_
        refine z_iload_n C 3 dX6_asks_49 rfl ?_
        refine xa_4 C (by decide) j rfl (by first | assumption | omega) dX6_asks_50 ?_
        refine z_callV0 C (c_X4_asksNow l E _ (by first | assumption | omega) (by first | assumption | omega)) ⟨(by decide), (by first | assumption | omega)⟩ rfl rfl q_X6_145 ⟨by decide, by decide⟩ (Nat.le_of_ble_eq_true rfl) dX6_asks_51 (fun v F9 hp => ?_)
        obtain ⟨rfl, e9⟩ := hp
        rw [e9]
        clear e9 F9
        refine z_iret C0 dX6_asks_54 ?_
        exact xpo.ok (by simp [kAsks, okRN, h5, h18, h25]) (by rw [nI_clamp (by omega), nI_clamp (by omega)]; exact hT.ask (by rw [sk_run.S]; exact hj)) ⟨T, rfl⟩
      · skip
        have h25 := bI_0 h25
        refine z_aload_n C 0 dX6_asks_28 rfl ?_
        refine z_bipush C (v := (-6)) dX6_asks_29 rfl ?_
        refine z_callV1 C (c_X6_refuse l E _ _) ⟨by decide, rfl, rfl⟩ rfl rfl q_X6_51 ⟨by decide, by decide⟩ (Nat.le_of_ble_eq_true rfl) dX6_asks_31 (fun v F9 hp => ?_)
        obtain ⟨rfl, e9⟩ := hp
        rw [e9]
        clear e9 F9
        refine z_iret C0 dX6_asks_34 ?_
        exact xpo.ref (by simp [kAsks, okRN, h5, h18, h25]) (by decide)
  · skip
    have h5 := bI_0 h5
    refine z_aload_n C 0 dX6_asks_8 rfl ?_
    refine z_iconst C (v := (-1)) dX6_asks_9 rfl ?_
    refine z_callV1 C (c_X6_refuse l E _ _) ⟨by decide, rfl, rfl⟩ rfl rfl q_X6_51 ⟨by decide, by decide⟩ (Nat.le_of_ble_eq_true rfl) dX6_asks_10 (fun v F9 hp => ?_)
    obtain ⟨rfl, e9⟩ := hp
    rw [e9]
    clear e9 F9
    refine z_iret C0 dX6_asks_13 ?_
    exact xpo.ref (by simp [kAsks, h5]) (by decide)
set_option maxRecDepth 100000 in
set_option maxHeartbeats 4000000 in
theorem c_X6_deals (l : Launch) (E : zE) (F : zF) (hI : XI F) (rule n w : Int32) : XM l E yX6_deals cX6_deals 5 (some .int) 7 [.ref (xadr E.2.2.1 (0, 0, 0)), .int (rule), .int (n), .int (w)] (F) (xpo F (kDeals rule n w) (aDeals (F.1 0).1 (run rule n.toNatClampNeg (F.1 0).1) w) (thO F)) := by
  refine XM.mk kq_X6 (Nat.le_of_ble_eq_true rfl) (fun K s C0 => ?_)
  have C := C0.c
  obtain ⟨hz, hw, hsh⟩ := id hI
  obtain ⟨⟨eS, lS⟩, ⟨eC, lC⟩⟩ := id hz
  refine z_iload_n C 3 dX6_deals_0 rfl ?_
  refine z_if_eq C 16 dX6_deals_1 (by decide) (fun h1 => ?_) (fun h1 => ?_)
  · skip
    refine z_iload_n C 1 dX6_deals_16 rfl ?_
    refine z_callS1 C (c_X6_isRule l E _ _) q_X6_199 ⟨by decide, by decide⟩ (Nat.le_of_ble_eq_true rfl) dX6_deals_17 (fun v F9 hp => ?_)
    obtain ⟨rfl, e9⟩ := hp
    rw [e9]
    clear e9 F9
    refine z_if_eq C 30 dX6_deals_20 (by decide) (fun h20 => ?_) (fun h20 => ?_)
    · skip
      have h20 := bI_0 h20
      refine z_aload_n C 0 dX6_deals_30 rfl ?_
      refine z_bipush C (v := (-6)) dX6_deals_31 rfl ?_
      refine z_callV1 C (c_X6_refuse l E _ _) ⟨by decide, rfl, rfl⟩ rfl rfl q_X6_51 ⟨by decide, by decide⟩ (Nat.le_of_ble_eq_true rfl) dX6_deals_33 (fun v F9 hp => ?_)
      obtain ⟨rfl, e9⟩ := hp
      rw [e9]
      clear e9 F9
      refine z_iret C0 dX6_deals_36 ?_
      exact xpo.ref (by simp [kDeals, okRN, h1, h20]) (by decide)
    · skip
      have h20 := bI_1 h20
      refine z_iload_n C 2 dX6_deals_23 rfl ?_
      refine z_callS1 C (c_X6_isTime l E _ _) q_X6_202 ⟨by decide, by decide⟩ (Nat.le_of_ble_eq_true rfl) dX6_deals_24 (fun v F9 hp => ?_)
      obtain ⟨rfl, e9⟩ := hp
      rw [e9]
      clear e9 F9
      refine z_if_ne C 37 dX6_deals_27 (by decide) (fun h27 => ?_) (fun h27 => ?_)
      · skip
        have h27 := bI_1 h27
        obtain ⟨nn, hnn, rfl⟩ := inT_of (n := 240) h27 (by omega)
        refine z_aload_n C 0 dX6_deals_37 rfl ?_
        refine z_iload_n C 1 dX6_deals_38 rfl ?_
        refine z_iload_n C 2 dX6_deals_39 rfl ?_
        refine z_callV2 C (c_X6_foresee l E _ hI _ (by first | assumption | omega)) ⟨by decide, rfl, rfl⟩ rfl rfl q_X6_205 ⟨by decide, by decide⟩ (Nat.le_of_ble_eq_true rfl) dX6_deals_40 (fun v F9 hp => ?_)
        obtain ⟨T, e9, hT, rfl⟩ := hp
        rw [e9]
        clear e9 F9
        have hzT : gz T.1 := (hT.tr (eqv.rf _)).z (sk_run.z hz)
        have eTS : nS T.1 = nS (F.1 0).1 := hT.S.trans sk_run.S
        have eTC : nC T.1 = nC (F.1 0).1 := hT.C.trans sk_run.C
        refine z_istore C dX6_deals_43 (by decide) ?_
        refine z_iload_n C 4 dX6_deals_45 rfl ?_
        refine z_if_ne C 54 dX6_deals_46 (by decide) (fun h46 => ?_) (fun h46 => ?_)
        · skip
          refine z_aload_n C 1 dX6_deals_54 rfl ?_
          refine xg_0_3 C kf_X6_26 dX6_deals_55 ?_
          refine xg_3 (k := 3) C (by decide) (by decide) kf_X6_208 dX6_deals_58 ?_
          refine z_iret C0 dX6_deals_61 ?_
          exact xpo.ok (by simp [kDeals, okRN, h1, h20, h27, h46]) (by rw [nI_clamp (by omega)]; unfold aDeals; rw [if_neg h46, ← hT.1 3 (by omega)]; rfl) ⟨T, rfl⟩
        · skip
          refine z_iload C 0 dX6_deals_49 rfl ?_
          refine z_goto C 61 dX6_deals_51 (by decide) ?_
          refine z_iret C0 dX6_deals_61 ?_
          exact xpo.ok (by simp [kDeals, okRN, h1, h20, h27, h46]) (by rw [nI_clamp (by omega)]; unfold aDeals; rw [if_pos h46]) ⟨T, rfl⟩
      · skip
        have h27 := bI_0 h27
        refine z_aload_n C 0 dX6_deals_30 rfl ?_
        refine z_bipush C (v := (-6)) dX6_deals_31 rfl ?_
        refine z_callV1 C (c_X6_refuse l E _ _) ⟨by decide, rfl, rfl⟩ rfl rfl q_X6_51 ⟨by decide, by decide⟩ (Nat.le_of_ble_eq_true rfl) dX6_deals_33 (fun v F9 hp => ?_)
        obtain ⟨rfl, e9⟩ := hp
        rw [e9]
        clear e9 F9
        refine z_iret C0 dX6_deals_36 ?_
        exact xpo.ref (by simp [kDeals, okRN, h1, h20, h27]) (by decide)
  · skip
    refine z_iload_n C 3 dX6_deals_4 rfl ?_
    refine z_iconst C (v := 1) dX6_deals_5 rfl ?_
    refine z_icmp_eq C 16 dX6_deals_6 (by decide) (fun h6 => ?_) (fun h6 => ?_)
    · skip
      refine z_iload_n C 1 dX6_deals_16 rfl ?_
      refine z_callS1 C (c_X6_isRule l E _ _) q_X6_199 ⟨by decide, by decide⟩ (Nat.le_of_ble_eq_true rfl) dX6_deals_17 (fun v F9 hp => ?_)
      obtain ⟨rfl, e9⟩ := hp
      rw [e9]
      clear e9 F9
      refine z_if_eq C 30 dX6_deals_20 (by decide) (fun h20 => ?_) (fun h20 => ?_)
      · skip
        have h20 := bI_0 h20
        refine z_aload_n C 0 dX6_deals_30 rfl ?_
        refine z_bipush C (v := (-6)) dX6_deals_31 rfl ?_
        refine z_callV1 C (c_X6_refuse l E _ _) ⟨by decide, rfl, rfl⟩ rfl rfl q_X6_51 ⟨by decide, by decide⟩ (Nat.le_of_ble_eq_true rfl) dX6_deals_33 (fun v F9 hp => ?_)
        obtain ⟨rfl, e9⟩ := hp
        rw [e9]
        clear e9 F9
        refine z_iret C0 dX6_deals_36 ?_
        exact xpo.ref (by simp [kDeals, okRN, h1, h6, h20]) (by decide)
      · skip
        have h20 := bI_1 h20
        refine z_iload_n C 2 dX6_deals_23 rfl ?_
        refine z_callS1 C (c_X6_isTime l E _ _) q_X6_202 ⟨by decide, by decide⟩ (Nat.le_of_ble_eq_true rfl) dX6_deals_24 (fun v F9 hp => ?_)
        obtain ⟨rfl, e9⟩ := hp
        rw [e9]
        clear e9 F9
        refine z_if_ne C 37 dX6_deals_27 (by decide) (fun h27 => ?_) (fun h27 => ?_)
        · skip
          have h27 := bI_1 h27
          obtain ⟨nn, hnn, rfl⟩ := inT_of (n := 240) h27 (by omega)
          refine z_aload_n C 0 dX6_deals_37 rfl ?_
          refine z_iload_n C 1 dX6_deals_38 rfl ?_
          refine z_iload_n C 2 dX6_deals_39 rfl ?_
          refine z_callV2 C (c_X6_foresee l E _ hI _ (by first | assumption | omega)) ⟨by decide, rfl, rfl⟩ rfl rfl q_X6_205 ⟨by decide, by decide⟩ (Nat.le_of_ble_eq_true rfl) dX6_deals_40 (fun v F9 hp => ?_)
          obtain ⟨T, e9, hT, rfl⟩ := hp
          rw [e9]
          clear e9 F9
          have hzT : gz T.1 := (hT.tr (eqv.rf _)).z (sk_run.z hz)
          have eTS : nS T.1 = nS (F.1 0).1 := hT.S.trans sk_run.S
          have eTC : nC T.1 = nC (F.1 0).1 := hT.C.trans sk_run.C
          refine z_istore C dX6_deals_43 (by decide) ?_
          refine z_iload_n C 4 dX6_deals_45 rfl ?_
          refine z_if_ne C 54 dX6_deals_46 (by decide) (fun h46 => ?_) (fun h46 => ?_)
          · skip
            refine z_aload_n C 1 dX6_deals_54 rfl ?_
            refine xg_0_3 C kf_X6_26 dX6_deals_55 ?_
            refine xg_3 (k := 3) C (by decide) (by decide) kf_X6_208 dX6_deals_58 ?_
            refine z_iret C0 dX6_deals_61 ?_
            exact xpo.ok (by simp [kDeals, okRN, h1, h6, h20, h27, h46]) (by rw [nI_clamp (by omega)]; unfold aDeals; rw [if_neg h46, ← hT.1 3 (by omega)]; rfl) ⟨T, rfl⟩
          · skip
            refine z_iload C 0 dX6_deals_49 rfl ?_
            refine z_goto C 61 dX6_deals_51 (by decide) ?_
            refine z_iret C0 dX6_deals_61 ?_
            exact xpo.ok (by simp [kDeals, okRN, h1, h6, h20, h27, h46]) (by rw [nI_clamp (by omega)]; unfold aDeals; rw [if_pos h46]) ⟨T, rfl⟩
        · skip
          have h27 := bI_0 h27
          refine z_aload_n C 0 dX6_deals_30 rfl ?_
          refine z_bipush C (v := (-6)) dX6_deals_31 rfl ?_
          refine z_callV1 C (c_X6_refuse l E _ _) ⟨by decide, rfl, rfl⟩ rfl rfl q_X6_51 ⟨by decide, by decide⟩ (Nat.le_of_ble_eq_true rfl) dX6_deals_33 (fun v F9 hp => ?_)
          obtain ⟨rfl, e9⟩ := hp
          rw [e9]
          clear e9 F9
          refine z_iret C0 dX6_deals_36 ?_
          exact xpo.ref (by simp [kDeals, okRN, h1, h6, h20, h27]) (by decide)
    · skip
      refine z_aload_n C 0 dX6_deals_9 rfl ?_
      refine z_bipush C (v := (-5)) dX6_deals_10 rfl ?_
      refine z_callV1 C (c_X6_refuse l E _ _) ⟨by decide, rfl, rfl⟩ rfl rfl q_X6_51 ⟨by decide, by decide⟩ (Nat.le_of_ble_eq_true rfl) dX6_deals_12 (fun v F9 hp => ?_)
      obtain ⟨rfl, e9⟩ := hp
      rw [e9]
      clear e9 F9
      refine z_iret C0 dX6_deals_15 ?_
      exact xpo.ref (by simp [kDeals, h1, h6]) (by decide)
