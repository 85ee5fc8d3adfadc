/-! the reference: moves -/
def bdS (M : zM) (b : Int32) : zM := mI (if M.2.1 46 < 20 then mA M 45 (M.2.1 46).toNatClampNeg b else M) 46 (M.2.1 46 + 1)
theorem bdS_1 {M : zM} {b : Int32} : (bdS M b).1 = M.1 := by unfold bdS; split <;> rfl
theorem bdS_46 {M : zM} {b : Int32} {r : Nat} (er : M.2.1 46 = nI r) : (bdS M b).2.1 46 = nI (r + 1) := by
  have e : (bdS M b).2.1 46 = M.2.1 46 + 1 := by unfold bdS mI; simp [upd]
  rw [e, er]; exact nI_1 _
theorem bdS_n {M : zM} {b : Int32} (h : ¬ M.2.1 46 < 20) : mI M 46 (M.2.1 46 + 1) = bdS M b := by unfold bdS; rw [if_neg h]
theorem bdS_t {M : zM} {b : Int32} {r : Nat} (h : M.2.1 46 < 20) (er : M.2.1 46 = nI r) (hr : r < 2 ^ 31) : mI (mA M 45 r b) 46 (M.2.1 46 + 1) = bdS M b := by
  unfold bdS
  rw [if_pos h, er, nI_clamp hr]
def bdL : zM → List Int32 → zM
  | M, [] => M
  | M, b :: bs => bdL (bdS M b) bs
theorem mv_2 {m : Int32} (h : ¬ m < 0) (h2 : m ≤ 2) (h3 : ¬ m = 0) (h4 : ¬ m = 1) : m = nI 2 := by
  obtain ⟨j, hj, rfl⟩ := inT_of (n := 2) (inT_t h h2) (by omega)
  have hj2 : j = 0 ∨ j = 1 ∨ j = 2 := by omega
  rcases hj2 with rfl | rfl | rfl
  · exact absurd rfl h3
  · exact absurd rfl h4
  · rfl
set_option maxRecDepth 100000 in
set_option maxHeartbeats 4000000 in
theorem c_X7_body (l : Launch) (E : zE) (M : zM) {r : Nat} (hr : r < 1000) (er : M.2.1 46 = nI r) (b : Int32) : MM l E yX7_body cX7_body 2 none 1 [.ref (madr E.2.2.1 (0, 0, 0)), .int (b)] (M) (fun v M2 => v = none ∧ M2 = bdS M b) := by
  refine MM.mk kq_X7 (Nat.le_of_ble_eq_true rfl) (fun K s C0 => ?_)
  have C := C0.c
  refine z_aload_n C 0 dX7_body_0 rfl ?_
  refine mg_46 C dX7_body_1 ?_
  refine z_top (nI r) (er) ?_
  refine z_bipush C (v := 20) dX7_body_4 rfl ?_
  refine z_icmp_ge C 19 dX7_body_6 (by decide) (fun h6 => ?_) (fun h6 => ?_)
  · skip
    refine z_aload_n C 0 dX7_body_19 rfl ?_
    refine z_dup C dX7_body_20 rfl ?_
    refine mg_46 C dX7_body_21 ?_
    refine z_top (M.2.1 46) (rfl) ?_
    refine z_iconst C (v := 1) dX7_body_24 rfl ?_
    refine z_iadd C dX7_body_25 ?_
    refine mp_46 C dX7_body_26 ?_
    refine z_vret C0 dX7_body_29 ?_
    have hr2 : ¬ M.2.1 46 < 20 := by rw [er]; exact Int32.not_lt.mpr h6
    exact ⟨rfl, bdS_n hr2⟩
  · skip
    have hr2 : r < 20 := by
      rcases Nat.lt_or_ge r 20 with q | q
      · exact q
      · exact absurd (nI_le (a := 20) (b := r) q (by omega)) h6
    refine z_aload_n C 0 dX7_body_9 rfl ?_
    refine mg_45 C dX7_body_10 ?_
    refine z_aload_n C 0 dX7_body_13 rfl ?_
    refine mg_46 C dX7_body_14 ?_
    refine z_top (nI r) (er) ?_
    refine z_iload_n C 1 dX7_body_17 rfl ?_
    refine ms_45 C r rfl (by first | assumption | omega) dX7_body_18 ?_
    refine z_aload_n C 0 dX7_body_19 rfl ?_
    refine z_dup C dX7_body_20 rfl ?_
    refine mg_46 C dX7_body_21 ?_
    refine z_top (M.2.1 46) (rfl) ?_
    refine z_iconst C (v := 1) dX7_body_24 rfl ?_
    refine z_iadd C dX7_body_25 ?_
    refine mp_46 C dX7_body_26 ?_
    refine z_vret C0 dX7_body_29 ?_
    have hr3 : M.2.1 46 < 20 := by rw [er]; exact Int32.not_le.mp h6
    exact ⟨rfl, bdS_t hr3 er (by omega)⟩
set_option maxRecDepth 100000 in
set_option maxHeartbeats 4000000 in
theorem c_asking0 (l : Launch) (E : zE) (M : zM) {j : Nat} (hj : j < 6) {r : Nat} (hr : r ≤ 20) (er0 : M.2.1 46 = nI r) (ek : M.1.2.1 j 0 = 0) (x : Int32) : MM l E yX7_asking cX7_asking 5 (some .int) 2 [.ref (madr E.2.2.1 (0, 0, 0)), .int (nI j), .int (x)] (M) (fun v M2 => v = some (.int (x + nI j)) ∧ M2 = (bdS M 10)) := by
  refine MM.mk kq_X7 (Nat.le_of_ble_eq_true rfl) (fun K s C0 => ?_)
  have C := C0.c
  refine z_aload_n C 0 dX7_asking_0 rfl ?_
  refine mg_10 C dX7_asking_1 ?_
  refine z_iload_n C 1 dX7_asking_4 rfl ?_
  refine ml_10 C j rfl (by first | assumption | omega) dX7_asking_5 ?_
  refine z_top (0) (ek) ?_
  refine z_istore_n (i := 3) C dX7_asking_6 rfl (by decide) ?_
  refine z_iload_n C 0 dX7_asking_7 rfl ?_
  refine z_bipush C (v := 6) dX7_asking_8 rfl ?_
  refine z_icmp_ne C 19 dX7_asking_10 (by decide) (fun h10 => ?_) (fun h10 => ?_)
  · skip
    refine z_iload_n C 0 dX7_asking_19 rfl ?_
    refine z_iconst C (v := 4) dX7_asking_20 rfl ?_
    refine z_icmp_eq C 30 dX7_asking_21 (by decide) (fun h21 => ?_) (fun h21 => ?_)
    · exact absurd h21 (by decide)
    · skip
      refine z_iload_n C 0 dX7_asking_24 rfl ?_
      refine z_bipush C (v := 6) dX7_asking_25 rfl ?_
      refine z_icmp_ne C 36 dX7_asking_27 (by decide) (fun h27 => ?_) (fun h27 => ?_)
      · skip
        refine z_iload_n C 0 dX7_asking_36 rfl ?_
        refine z_iconst C (v := 1) dX7_asking_37 rfl ?_
        refine z_icmp_eq C 46 dX7_asking_38 (by decide) (fun h38 => ?_) (fun h38 => ?_)
        · exact absurd h38 (by decide)
        · skip
          refine z_iload_n C 0 dX7_asking_41 rfl ?_
          refine z_iconst C (v := 3) dX7_asking_42 rfl ?_
          refine z_icmp_ne C 52 dX7_asking_43 (by decide) (fun h43 => ?_) (fun h43 => ?_)
          · skip
            refine z_aload_n C 1 dX7_asking_52 rfl ?_
            refine z_bipush C (v := 10) dX7_asking_53 rfl ?_
            refine z_callV1 C (c_X7_body l E _ (r := r + 0) (by omega) er0 10) ⟨rfl, rfl⟩ rfl rfl q_X7_297 ⟨by decide, by decide⟩ (Nat.le_of_ble_eq_true rfl) dX7_asking_55 (fun v F9 hp => ?_)
            obtain ⟨rfl, e9⟩ := hp
            rw [e9]
            clear e9 F9
            have er1 := bdS_46 (b := 10) er0
            refine z_iload_n C 3 dX7_asking_58 rfl ?_
            refine z_iload_n C 2 dX7_asking_59 rfl ?_
            refine z_iadd C dX7_asking_60 ?_
            refine z_istore C dX7_asking_61 (by decide) ?_
            refine z_iload_n C 1 dX7_asking_63 rfl ?_
            refine z_iconst C (v := 1) dX7_asking_64 rfl ?_
            refine z_icmp_eq C 73 dX7_asking_65 (by decide) (fun h65 => ?_) (fun h65 => ?_)
            · exact absurd h65 (by decide)
            · skip
              refine z_iload_n C 1 dX7_asking_68 rfl ?_
              refine z_iconst C (v := 3) dX7_asking_69 rfl ?_
              refine z_icmp_ne C 84 dX7_asking_70 (by decide) (fun h70 => ?_) (fun h70 => ?_)
              · skip
                refine z_iload_n C 1 dX7_asking_84 rfl ?_
                refine z_iconst C (v := 4) dX7_asking_85 rfl ?_
                refine z_icmp_eq C 95 dX7_asking_86 (by decide) (fun h86 => ?_) (fun h86 => ?_)
                · exact absurd h86 (by decide)
                · skip
                  refine z_iload_n C 1 dX7_asking_89 rfl ?_
                  refine z_bipush C (v := 6) dX7_asking_90 rfl ?_
                  refine z_icmp_ne C 101 dX7_asking_92 (by decide) (fun h92 => ?_) (fun h92 => ?_)
                  · skip
                    refine z_iload_n C 1 dX7_asking_101 rfl ?_
                    refine z_bipush C (v := 6) dX7_asking_102 rfl ?_
                    refine z_icmp_ne C 114 dX7_asking_104 (by decide) (fun h104 => ?_) (fun h104 => ?_)
                    · skip
                      refine z_iload C 0 dX7_asking_114 rfl ?_
                      refine z_iret C0 dX7_asking_116 ?_
                      exact ⟨rfl, rfl⟩
                    · exact absurd h104 (by decide)
                  · exact absurd h92 (by decide)
              · exact absurd h70 (by decide)
          · exact absurd h43 (by decide)
      · exact absurd h27 (by decide)
  · exact absurd h10 (by decide)
set_option maxRecDepth 100000 in
set_option maxHeartbeats 4000000 in
theorem c_selling0 (l : Launch) (E : zE) (M : zM) {j : Nat} (hj : j < 6) {r : Nat} (hr : r ≤ 15) (er0 : M.2.1 46 = nI r) (ek : M.1.2.1 j 0 = 0) (x : Int32) : MM l E yX7_selling cX7_selling 7 (some .int) 3 [.ref (madr E.2.2.1 (0, 0, 0)), .int (nI j), .int (x)] (M) (fun v M2 => v = some (.int ((x + nI j) * 2)) ∧ M2 = (bdS (bdS M 11) 10)) := by
  refine MM.mk kq_X7 (Nat.le_of_ble_eq_true rfl) (fun K s C0 => ?_)
  have C := C0.c
  refine z_aload_n C 0 dX7_selling_0 rfl ?_
  refine mg_10 C dX7_selling_1 ?_
  refine z_iload_n C 1 dX7_selling_4 rfl ?_
  refine ml_10 C j rfl (by first | assumption | omega) dX7_selling_5 ?_
  refine z_top (0) (ek) ?_
  refine z_istore_n (i := 3) C dX7_selling_6 rfl (by decide) ?_
  refine z_iload_n C 3 dX7_selling_7 rfl ?_
  refine z_istore C dX7_selling_8 (by decide) ?_
  refine z_iload_n C 1 dX7_selling_10 rfl ?_
  refine z_bipush C (v := 6) dX7_selling_11 rfl ?_
  refine z_icmp_ne C 32 dX7_selling_13 (by decide) (fun h13 => ?_) (fun h13 => ?_)
  · skip
    refine z_iload_n C 1 dX7_selling_32 rfl ?_
    refine z_iconst C (v := 3) dX7_selling_33 rfl ?_
    refine z_icmp_ne C 48 dX7_selling_34 (by decide) (fun h34 => ?_) (fun h34 => ?_)
    · skip
      refine z_iload_n C 1 dX7_selling_48 rfl ?_
      refine z_iconst C (v := 2) dX7_selling_49 rfl ?_
      refine z_icmp_eq C 58 dX7_selling_50 (by decide) (fun h50 => ?_) (fun h50 => ?_)
      · exact absurd h50 (by decide)
      · skip
        refine z_iload_n C 1 dX7_selling_53 rfl ?_
        refine z_iconst C (v := 5) dX7_selling_54 rfl ?_
        refine z_icmp_ne C 62 dX7_selling_55 (by decide) (fun h55 => ?_) (fun h55 => ?_)
        · skip
          refine z_iconst C (v := 0) dX7_selling_62 rfl ?_
          refine z_istore C dX7_selling_63 (by decide) ?_
          refine z_iload C 0 dX7_selling_65 rfl ?_
          refine z_if_eq C 76 dX7_selling_67 (by decide) (fun h67 => ?_) (fun h67 => ?_)
          · skip
            refine z_aload_n C 3 dX7_selling_76 rfl ?_
            refine z_bipush C (v := 11) dX7_selling_77 rfl ?_
            refine z_callV1 C (c_X7_body l E _ (r := r + 0) (by omega) er0 11) ⟨rfl, rfl⟩ rfl rfl q_X7_297 ⟨by decide, by decide⟩ (Nat.le_of_ble_eq_true rfl) dX7_selling_79 (fun v F9 hp => ?_)
            obtain ⟨rfl, e9⟩ := hp
            rw [e9]
            clear e9 F9
            have er1 := bdS_46 (b := 11) er0
            refine z_aload_n C 3 dX7_selling_82 rfl ?_
            refine z_iload_n C 4 dX7_selling_83 rfl ?_
            refine z_iload C 1 dX7_selling_84 rfl ?_
            refine z_callV2 C (c_asking0 l E (bdS M 11) hj (r := r + 1) (by omega) er1 (by simp only [bdS_1]; exact ek) _) ⟨rfl, rfl⟩ rfl rfl q_X7_300 ⟨by decide, by decide⟩ (Nat.le_of_ble_eq_true rfl) dX7_selling_86 (fun v F9 hp => ?_)
            obtain ⟨rfl, e9⟩ := hp
            rw [e9]
            clear e9 F9
            refine z_iconst C (v := 2) dX7_selling_89 rfl ?_
            refine z_imul C dX7_selling_90 ?_
            refine z_istore C dX7_selling_91 (by decide) ?_
            refine z_iload C 1 dX7_selling_93 rfl ?_
            refine z_if_eq C 105 dX7_selling_95 (by decide) (fun h95 => ?_) (fun h95 => ?_)
            · skip
              refine z_iload C 0 dX7_selling_105 rfl ?_
              refine z_iret C0 dX7_selling_107 ?_
              exact ⟨rfl, rfl⟩
            · exact absurd h95 (by decide)
          · exact absurd h67 (by decide)
        · exact absurd h55 (by decide)
    · exact absurd h34 (by decide)
  · exact absurd h13 (by decide)
set_option maxRecDepth 100000 in
set_option maxHeartbeats 4000000 in
theorem c_shutting0 (l : Launch) (E : zE) (M : zM) {j : Nat} (hj : j < 6) {r : Nat} (hr : r = 0) (er0 : M.2.1 46 = nI r) (ek : M.1.2.1 j 0 = 0) (x : Int32) : MM l E yX7_shutting cX7_shutting 5 (some .int) 4 [.ref (madr E.2.2.1 (0, 0, 0)), .int (nI j), .int (x)] (M) (fun v M2 => v = some (.int (((x + nI j) * 2) ^^^ ((x - M.1.2.1 j 1) + nI j))) ∧ M2 = (bdS (bdS (bdS (bdS M 12) 11) 10) 10)) := by
  refine MM.mk kq_X7 (Nat.le_of_ble_eq_true rfl) (fun K s C0 => ?_)
  have C := C0.c
  refine z_aload_n C 0 dX7_shutting_0 rfl ?_
  refine mg_10 C dX7_shutting_1 ?_
  refine z_iload_n C 1 dX7_shutting_4 rfl ?_
  refine ml_10 C j rfl (by first | assumption | omega) dX7_shutting_5 ?_
  refine z_top (0) (ek) ?_
  refine z_istore_n (i := 3) C dX7_shutting_6 rfl (by decide) ?_
  refine z_iload_n C 0 dX7_shutting_7 rfl ?_
  refine z_iconst C (v := 4) dX7_shutting_8 rfl ?_
  refine z_icmp_eq C 18 dX7_shutting_9 (by decide) (fun h9 => ?_) (fun h9 => ?_)
  · exact absurd h9 (by decide)
  · skip
    refine z_iload_n C 0 dX7_shutting_12 rfl ?_
    refine z_bipush C (v := 6) dX7_shutting_13 rfl ?_
    refine z_icmp_ne C 24 dX7_shutting_15 (by decide) (fun h15 => ?_) (fun h15 => ?_)
    · skip
      refine z_iload_n C 0 dX7_shutting_24 rfl ?_
      refine z_iconst C (v := 5) dX7_shutting_25 rfl ?_
      refine z_icmp_ne C 35 dX7_shutting_26 (by decide) (fun h26 => ?_) (fun h26 => ?_)
      · skip
        refine z_aload_n C 1 dX7_shutting_35 rfl ?_
        refine z_bipush C (v := 12) dX7_shutting_36 rfl ?_
        refine z_callV1 C (c_X7_body l E _ (r := r + 0) (by omega) er0 12) ⟨rfl, rfl⟩ rfl rfl q_X7_297 ⟨by decide, by decide⟩ (Nat.le_of_ble_eq_true rfl) dX7_shutting_38 (fun v F9 hp => ?_)
        obtain ⟨rfl, e9⟩ := hp
        rw [e9]
        clear e9 F9
        have er1 := bdS_46 (b := 12) er0
        refine z_aload_n C 1 dX7_shutting_41 rfl ?_
        refine z_iload_n C 2 dX7_shutting_42 rfl ?_
        refine z_iload_n C 3 dX7_shutting_43 rfl ?_
        refine z_callV2 C (c_selling0 l E (bdS M 12) hj (r := r + 1) (by omega) er1 (by simp only [bdS_1]; exact ek) _) ⟨rfl, rfl⟩ rfl rfl q_X7_303 ⟨by decide, by decide⟩ (Nat.le_of_ble_eq_true rfl) dX7_shutting_44 (fun v F9 hp => ?_)
        obtain ⟨rfl, e9⟩ := hp
        rw [e9]
        clear e9 F9
        have er2 := bdS_46 (b := 11) er1
        have er3 := bdS_46 (b := 10) er2
        refine z_istore C dX7_shutting_47 (by decide) ?_
        refine z_iload C 0 dX7_shutting_49 rfl ?_
        refine z_aload_n C 2 dX7_shutting_51 rfl ?_
        refine z_iload_n C 3 dX7_shutting_52 rfl ?_
        refine z_iload_n C 4 dX7_shutting_53 rfl ?_
        refine z_aload_n C 2 dX7_shutting_54 rfl ?_
        refine mg_11 C dX7_shutting_55 ?_
        refine z_iload_n C 3 dX7_shutting_58 rfl ?_
        refine ml_11 C j rfl (by first | assumption | omega) dX7_shutting_59 ?_
        refine z_isub C dX7_shutting_60 ?_
        refine z_callV2 C (c_asking0 l E (bdS (bdS (bdS M 12) 11) 10) hj (r := r + 3) (by omega) er3 (by simp only [bdS_1]; exact ek) _) ⟨rfl, rfl⟩ rfl rfl q_X7_300 ⟨by decide, by decide⟩ (Nat.le_of_ble_eq_true rfl) dX7_shutting_61 (fun v F9 hp => ?_)
        obtain ⟨rfl, e9⟩ := hp
        rw [e9]
        clear e9 F9
        refine z_ixor C dX7_shutting_64 ?_
        refine z_top (((x + nI j) * 2) ^^^ ((x - M.1.2.1 j 1) + nI j)) (by simp only [bdS_1]) ?_
        refine z_istore C dX7_shutting_65 (by decide) ?_
        refine z_iload_n C 1 dX7_shutting_67 rfl ?_
        refine z_iconst C (v := 4) dX7_shutting_68 rfl ?_
        refine z_icmp_eq C 78 dX7_shutting_69 (by decide) (fun h69 => ?_) (fun h69 => ?_)
        · exact absurd h69 (by decide)
        · skip
          refine z_iload_n C 1 dX7_shutting_72 rfl ?_
          refine z_bipush C (v := 6) dX7_shutting_73 rfl ?_
          refine z_icmp_ne C 84 dX7_shutting_75 (by decide) (fun h75 => ?_) (fun h75 => ?_)
          · skip
            refine z_iload_n C 1 dX7_shutting_84 rfl ?_
            refine z_iconst C (v := 5) dX7_shutting_85 rfl ?_
            refine z_icmp_ne C 96 dX7_shutting_86 (by decide) (fun h86 => ?_) (fun h86 => ?_)
            · skip
              refine z_iload C 0 dX7_shutting_96 rfl ?_
              refine z_iret C0 dX7_shutting_98 ?_
              exact ⟨rfl, rfl⟩
            · exact absurd h86 (by decide)
          · exact absurd h75 (by decide)
      · exact absurd h26 (by decide)
    · exact absurd h15 (by decide)
set_option maxRecDepth 100000 in
set_option maxHeartbeats 4000000 in
theorem c_asking1 (l : Launch) (E : zE) (M : zM) {j : Nat} (hj : j < 6) {r : Nat} (hr : r ≤ 20) (er0 : M.2.1 46 = nI r) (ek : M.1.2.1 j 0 = 1) (x : Int32) : MM l E yX7_asking cX7_asking 5 (some .int) 2 [.ref (madr E.2.2.1 (0, 0, 0)), .int (nI j), .int (x)] (M) (fun v M2 => v = some (.int ((x + nI j) + M.1.2.1 j 1)) ∧ M2 = (bdS (bdS M 20) 10)) := by
  refine MM.mk kq_X7 (Nat.le_of_ble_eq_true rfl) (fun K s C0 => ?_)
  have C := C0.c
  refine z_aload_n C 0 dX7_asking_0 rfl ?_
  refine mg_10 C dX7_asking_1 ?_
  refine z_iload_n C 1 dX7_asking_4 rfl ?_
  refine ml_10 C j rfl (by first | assumption | omega) dX7_asking_5 ?_
  refine z_top (1) (ek) ?_
  refine z_istore_n (i := 3) C dX7_asking_6 rfl (by decide) ?_
  refine z_iload_n C 0 dX7_asking_7 rfl ?_
  refine z_bipush C (v := 6) dX7_asking_8 rfl ?_
  refine z_icmp_ne C 19 dX7_asking_10 (by decide) (fun h10 => ?_) (fun h10 => ?_)
  · skip
    refine z_iload_n C 0 dX7_asking_19 rfl ?_
    refine z_iconst C (v := 4) dX7_asking_20 rfl ?_
    refine z_icmp_eq C 30 dX7_asking_21 (by decide) (fun h21 => ?_) (fun h21 => ?_)
    · exact absurd h21 (by decide)
    · skip
      refine z_iload_n C 0 dX7_asking_24 rfl ?_
      refine z_bipush C (v := 6) dX7_asking_25 rfl ?_
      refine z_icmp_ne C 36 dX7_asking_27 (by decide) (fun h27 => ?_) (fun h27 => ?_)
      · skip
        refine z_iload_n C 0 dX7_asking_36 rfl ?_
        refine z_iconst C (v := 1) dX7_asking_37 rfl ?_
        refine z_icmp_eq C 46 dX7_asking_38 (by decide) (fun h38 => ?_) (fun h38 => ?_)
        · skip
          refine z_aload_n C 1 dX7_asking_46 rfl ?_
          refine z_bipush C (v := 20) dX7_asking_47 rfl ?_
          refine z_callV1 C (c_X7_body l E _ (r := r + 0) (by omega) er0 20) ⟨rfl, rfl⟩ rfl rfl q_X7_297 ⟨by decide, by decide⟩ (Nat.le_of_ble_eq_true rfl) dX7_asking_49 (fun v F9 hp => ?_)
          obtain ⟨rfl, e9⟩ := hp
          rw [e9]
          clear e9 F9
          have er1 := bdS_46 (b := 20) er0
          refine z_aload_n C 1 dX7_asking_52 rfl ?_
          refine z_bipush C (v := 10) dX7_asking_53 rfl ?_
          refine z_callV1 C (c_X7_body l E _ (r := r + 1) (by omega) er1 10) ⟨rfl, rfl⟩ rfl rfl q_X7_297 ⟨by decide, by decide⟩ (Nat.le_of_ble_eq_true rfl) dX7_asking_55 (fun v F9 hp => ?_)
          obtain ⟨rfl, e9⟩ := hp
          rw [e9]
          clear e9 F9
          have er2 := bdS_46 (b := 10) er1
          refine z_iload_n C 3 dX7_asking_58 rfl ?_
          refine z_iload_n C 2 dX7_asking_59 rfl ?_
          refine z_iadd C dX7_asking_60 ?_
          refine z_istore C dX7_asking_61 (by decide) ?_
          refine z_iload_n C 1 dX7_asking_63 rfl ?_
          refine z_iconst C (v := 1) dX7_asking_64 rfl ?_
          refine z_icmp_eq C 73 dX7_asking_65 (by decide) (fun h65 => ?_) (fun h65 => ?_)
          · skip
            refine z_iload C 0 dX7_asking_73 rfl ?_
            refine z_aload_n C 2 dX7_asking_75 rfl ?_
            refine mg_11 C dX7_asking_76 ?_
            refine z_iload_n C 3 dX7_asking_79 rfl ?_
            refine ml_11 C j rfl (by first | assumption | omega) dX7_asking_80 ?_
            refine z_top (M.1.2.1 j 1) (by simp only [bdS_1]) ?_
            refine z_iadd C dX7_asking_81 ?_
            refine z_istore C dX7_asking_82 (by decide) ?_
            refine z_iload_n C 1 dX7_asking_84 rfl ?_
            refine z_iconst C (v := 4) dX7_asking_85 rfl ?_
            refine z_icmp_eq C 95 dX7_asking_86 (by decide) (fun h86 => ?_) (fun h86 => ?_)
            · exact absurd h86 (by decide)
            · skip
              refine z_iload_n C 1 dX7_asking_89 rfl ?_
              refine z_bipush C (v := 6) dX7_asking_90 rfl ?_
              refine z_icmp_ne C 101 dX7_asking_92 (by decide) (fun h92 => ?_) (fun h92 => ?_)
              · skip
                refine z_iload_n C 1 dX7_asking_101 rfl ?_
                refine z_bipush C (v := 6) dX7_asking_102 rfl ?_
                refine z_icmp_ne C 114 dX7_asking_104 (by decide) (fun h104 => ?_) (fun h104 => ?_)
                · skip
                  refine z_iload C 0 dX7_asking_114 rfl ?_
                  refine z_iret C0 dX7_asking_116 ?_
                  exact ⟨rfl, rfl⟩
                · exact absurd h104 (by decide)
              · exact absurd h92 (by decide)
          · exact absurd h65 (by decide)
        · exact absurd h38 (by decide)
      · exact absurd h27 (by decide)
  · exact absurd h10 (by decide)
set_option maxRecDepth 100000 in
set_option maxHeartbeats 4000000 in
theorem c_selling1 (l : Launch) (E : zE) (M : zM) {j : Nat} (hj : j < 6) {r : Nat} (hr : r ≤ 15) (er0 : M.2.1 46 = nI r) (ek : M.1.2.1 j 0 = 1) (x : Int32) : MM l E yX7_selling cX7_selling 7 (some .int) 3 [.ref (madr E.2.2.1 (0, 0, 0)), .int (nI j), .int (x)] (M) (fun v M2 => v = some (.int (((x + nI j) + M.1.2.1 j 1) * 2)) ∧ M2 = (bdS (bdS (bdS M 11) 20) 10)) := by
  refine MM.mk kq_X7 (Nat.le_of_ble_eq_true rfl) (fun K s C0 => ?_)
  have C := C0.c
  refine z_aload_n C 0 dX7_selling_0 rfl ?_
  refine mg_10 C dX7_selling_1 ?_
  refine z_iload_n C 1 dX7_selling_4 rfl ?_
  refine ml_10 C j rfl (by first | assumption | omega) dX7_selling_5 ?_
  refine z_top (1) (ek) ?_
  refine z_istore_n (i := 3) C dX7_selling_6 rfl (by decide) ?_
  refine z_iload_n C 3 dX7_selling_7 rfl ?_
  refine z_istore C dX7_selling_8 (by decide) ?_
  refine z_iload_n C 1 dX7_selling_10 rfl ?_
  refine z_bipush C (v := 6) dX7_selling_11 rfl ?_
  refine z_icmp_ne C 32 dX7_selling_13 (by decide) (fun h13 => ?_) (fun h13 => ?_)
  · skip
    refine z_iload_n C 1 dX7_selling_32 rfl ?_
    refine z_iconst C (v := 3) dX7_selling_33 rfl ?_
    refine z_icmp_ne C 48 dX7_selling_34 (by decide) (fun h34 => ?_) (fun h34 => ?_)
    · skip
      refine z_iload_n C 1 dX7_selling_48 rfl ?_
      refine z_iconst C (v := 2) dX7_selling_49 rfl ?_
      refine z_icmp_eq C 58 dX7_selling_50 (by decide) (fun h50 => ?_) (fun h50 => ?_)
      · exact absurd h50 (by decide)
      · skip
        refine z_iload_n C 1 dX7_selling_53 rfl ?_
        refine z_iconst C (v := 5) dX7_selling_54 rfl ?_
        refine z_icmp_ne C 62 dX7_selling_55 (by decide) (fun h55 => ?_) (fun h55 => ?_)
        · skip
          refine z_iconst C (v := 0) dX7_selling_62 rfl ?_
          refine z_istore C dX7_selling_63 (by decide) ?_
          refine z_iload C 0 dX7_selling_65 rfl ?_
          refine z_if_eq C 76 dX7_selling_67 (by decide) (fun h67 => ?_) (fun h67 => ?_)
          · skip
            refine z_aload_n C 3 dX7_selling_76 rfl ?_
            refine z_bipush C (v := 11) dX7_selling_77 rfl ?_
            refine z_callV1 C (c_X7_body l E _ (r := r + 0) (by omega) er0 11) ⟨rfl, rfl⟩ rfl rfl q_X7_297 ⟨by decide, by decide⟩ (Nat.le_of_ble_eq_true rfl) dX7_selling_79 (fun v F9 hp => ?_)
            obtain ⟨rfl, e9⟩ := hp
            rw [e9]
            clear e9 F9
            have er1 := bdS_46 (b := 11) er0
            refine z_aload_n C 3 dX7_selling_82 rfl ?_
            refine z_iload_n C 4 dX7_selling_83 rfl ?_
            refine z_iload C 1 dX7_selling_84 rfl ?_
            refine z_callV2 C (c_asking1 l E (bdS M 11) hj (r := r + 1) (by omega) er1 (by simp only [bdS_1]; exact ek) _) ⟨rfl, rfl⟩ rfl rfl q_X7_300 ⟨by decide, by decide⟩ (Nat.le_of_ble_eq_true rfl) dX7_selling_86 (fun v F9 hp => ?_)
            obtain ⟨rfl, e9⟩ := hp
            rw [e9]
            clear e9 F9
            refine z_top (((x + nI j) + M.1.2.1 j 1)) (by simp only [bdS_1]) ?_
            refine z_iconst C (v := 2) dX7_selling_89 rfl ?_
            refine z_imul C dX7_selling_90 ?_
            refine z_istore C dX7_selling_91 (by decide) ?_
            refine z_iload C 1 dX7_selling_93 rfl ?_
            refine z_if_eq C 105 dX7_selling_95 (by decide) (fun h95 => ?_) (fun h95 => ?_)
            · skip
              refine z_iload C 0 dX7_selling_105 rfl ?_
              refine z_iret C0 dX7_selling_107 ?_
              exact ⟨rfl, rfl⟩
            · exact absurd h95 (by decide)
          · exact absurd h67 (by decide)
        · exact absurd h55 (by decide)
    · exact absurd h34 (by decide)
  · exact absurd h13 (by decide)
set_option maxRecDepth 100000 in
set_option maxHeartbeats 4000000 in
theorem c_shutting1 (l : Launch) (E : zE) (M : zM) {j : Nat} (hj : j < 6) {r : Nat} (hr : r = 0) (er0 : M.2.1 46 = nI r) (ek : M.1.2.1 j 0 = 1) (x : Int32) : MM l E yX7_shutting cX7_shutting 5 (some .int) 4 [.ref (madr E.2.2.1 (0, 0, 0)), .int (nI j), .int (x)] (M) (fun v M2 => v = some (.int ((((x + nI j) + M.1.2.1 j 1) * 2) ^^^ (((x - M.1.2.1 j 1) + nI j) + M.1.2.1 j 1))) ∧ M2 = (bdS (bdS (bdS (bdS (bdS (bdS M 12) 11) 20) 10) 20) 10)) := by
  refine MM.mk kq_X7 (Nat.le_of_ble_eq_true rfl) (fun K s C0 => ?_)
  have C := C0.c
  refine z_aload_n C 0 dX7_shutting_0 rfl ?_
  refine mg_10 C dX7_shutting_1 ?_
  refine z_iload_n C 1 dX7_shutting_4 rfl ?_
  refine ml_10 C j rfl (by first | assumption | omega) dX7_shutting_5 ?_
  refine z_top (1) (ek) ?_
  refine z_istore_n (i := 3) C dX7_shutting_6 rfl (by decide) ?_
  refine z_iload_n C 0 dX7_shutting_7 rfl ?_
  refine z_iconst C (v := 4) dX7_shutting_8 rfl ?_
  refine z_icmp_eq C 18 dX7_shutting_9 (by decide) (fun h9 => ?_) (fun h9 => ?_)
  · exact absurd h9 (by decide)
  · skip
    refine z_iload_n C 0 dX7_shutting_12 rfl ?_
    refine z_bipush C (v := 6) dX7_shutting_13 rfl ?_
    refine z_icmp_ne C 24 dX7_shutting_15 (by decide) (fun h15 => ?_) (fun h15 => ?_)
    · skip
      refine z_iload_n C 0 dX7_shutting_24 rfl ?_
      refine z_iconst C (v := 5) dX7_shutting_25 rfl ?_
      refine z_icmp_ne C 35 dX7_shutting_26 (by decide) (fun h26 => ?_) (fun h26 => ?_)
      · skip
        refine z_aload_n C 1 dX7_shutting_35 rfl ?_
        refine z_bipush C (v := 12) dX7_shutting_36 rfl ?_
        refine z_callV1 C (c_X7_body l E _ (r := r + 0) (by omega) er0 12) ⟨rfl, rfl⟩ rfl rfl q_X7_297 ⟨by decide, by decide⟩ (Nat.le_of_ble_eq_true rfl) dX7_shutting_38 (fun v F9 hp => ?_)
        obtain ⟨rfl, e9⟩ := hp
        rw [e9]
        clear e9 F9
        have er1 := bdS_46 (b := 12) er0
        refine z_aload_n C 1 dX7_shutting_41 rfl ?_
        refine z_iload_n C 2 dX7_shutting_42 rfl ?_
        refine z_iload_n C 3 dX7_shutting_43 rfl ?_
        refine z_callV2 C (c_selling1 l E (bdS M 12) hj (r := r + 1) (by omega) er1 (by simp only [bdS_1]; exact ek) _) ⟨rfl, rfl⟩ rfl rfl q_X7_303 ⟨by decide, by decide⟩ (Nat.le_of_ble_eq_true rfl) dX7_shutting_44 (fun v F9 hp => ?_)
        obtain ⟨rfl, e9⟩ := hp
        rw [e9]
        clear e9 F9
        have er2 := bdS_46 (b := 11) er1
        have er3 := bdS_46 (b := 20) er2
        have er4 := bdS_46 (b := 10) er3
        refine z_istore C dX7_shutting_47 (by decide) ?_
        refine z_iload C 0 dX7_shutting_49 rfl ?_
        refine z_aload_n C 2 dX7_shutting_51 rfl ?_
        refine z_iload_n C 3 dX7_shutting_52 rfl ?_
        refine z_iload_n C 4 dX7_shutting_53 rfl ?_
        refine z_aload_n C 2 dX7_shutting_54 rfl ?_
        refine mg_11 C dX7_shutting_55 ?_
        refine z_iload_n C 3 dX7_shutting_58 rfl ?_
        refine ml_11 C j rfl (by first | assumption | omega) dX7_shutting_59 ?_
        refine z_isub C dX7_shutting_60 ?_
        refine z_callV2 C (c_asking1 l E (bdS (bdS (bdS (bdS M 12) 11) 20) 10) hj (r := r + 4) (by omega) er4 (by simp only [bdS_1]; exact ek) _) ⟨rfl, rfl⟩ rfl rfl q_X7_300 ⟨by decide, by decide⟩ (Nat.le_of_ble_eq_true rfl) dX7_shutting_61 (fun v F9 hp => ?_)
        obtain ⟨rfl, e9⟩ := hp
        rw [e9]
        clear e9 F9
        refine z_ixor C dX7_shutting_64 ?_
        refine z_top ((((x + nI j) + M.1.2.1 j 1) * 2) ^^^ (((x - M.1.2.1 j 1) + nI j) + M.1.2.1 j 1)) (by simp only [bdS_1]) ?_
        refine z_istore C dX7_shutting_65 (by decide) ?_
        refine z_iload_n C 1 dX7_shutting_67 rfl ?_
        refine z_iconst C (v := 4) dX7_shutting_68 rfl ?_
        refine z_icmp_eq C 78 dX7_shutting_69 (by decide) (fun h69 => ?_) (fun h69 => ?_)
        · exact absurd h69 (by decide)
        · skip
          refine z_iload_n C 1 dX7_shutting_72 rfl ?_
          refine z_bipush C (v := 6) dX7_shutting_73 rfl ?_
          refine z_icmp_ne C 84 dX7_shutting_75 (by decide) (fun h75 => ?_) (fun h75 => ?_)
          · skip
            refine z_iload_n C 1 dX7_shutting_84 rfl ?_
            refine z_iconst C (v := 5) dX7_shutting_85 rfl ?_
            refine z_icmp_ne C 96 dX7_shutting_86 (by decide) (fun h86 => ?_) (fun h86 => ?_)
            · skip
              refine z_iload C 0 dX7_shutting_96 rfl ?_
              refine z_iret C0 dX7_shutting_98 ?_
              exact ⟨rfl, rfl⟩
            · exact absurd h86 (by decide)
          · exact absurd h75 (by decide)
      · exact absurd h26 (by decide)
    · exact absurd h15 (by decide)
set_option maxRecDepth 100000 in
set_option maxHeartbeats 4000000 in
theorem c_asking2 (l : Launch) (E : zE) (M : zM) {j : Nat} (hj : j < 6) {r : Nat} (hr : r ≤ 20) (er0 : M.2.1 46 = nI r) (ek : M.1.2.1 j 0 = 2) (x : Int32) : MM l E yX7_asking cX7_asking 5 (some .int) 2 [.ref (madr E.2.2.1 (0, 0, 0)), .int (nI j), .int (x)] (M) (fun v M2 => v = some (.int (x + nI j)) ∧ M2 = (bdS M 10)) := by
  refine MM.mk kq_X7 (Nat.le_of_ble_eq_true rfl) (fun K s C0 => ?_)
  have C := C0.c
  refine z_aload_n C 0 dX7_asking_0 rfl ?_
  refine mg_10 C dX7_asking_1 ?_
  refine z_iload_n C 1 dX7_asking_4 rfl ?_
  refine ml_10 C j rfl (by first | assumption | omega) dX7_asking_5 ?_
  refine z_top (2) (ek) ?_
  refine z_istore_n (i := 3) C dX7_asking_6 rfl (by decide) ?_
  refine z_iload_n C 0 dX7_asking_7 rfl ?_
  refine z_bipush C (v := 6) dX7_asking_8 rfl ?_
  refine z_icmp_ne C 19 dX7_asking_10 (by decide) (fun h10 => ?_) (fun h10 => ?_)
  · skip
    refine z_iload_n C 0 dX7_asking_19 rfl ?_
    refine z_iconst C (v := 4) dX7_asking_20 rfl ?_
    refine z_icmp_eq C 30 dX7_asking_21 (by decide) (fun h21 => ?_) (fun h21 => ?_)
    · exact absurd h21 (by decide)
    · skip
      refine z_iload_n C 0 dX7_asking_24 rfl ?_
      refine z_bipush C (v := 6) dX7_asking_25 rfl ?_
      refine z_icmp_ne C 36 dX7_asking_27 (by decide) (fun h27 => ?_) (fun h27 => ?_)
      · skip
        refine z_iload_n C 0 dX7_asking_36 rfl ?_
        refine z_iconst C (v := 1) dX7_asking_37 rfl ?_
        refine z_icmp_eq C 46 dX7_asking_38 (by decide) (fun h38 => ?_) (fun h38 => ?_)
        · exact absurd h38 (by decide)
        · skip
          refine z_iload_n C 0 dX7_asking_41 rfl ?_
          refine z_iconst C (v := 3) dX7_asking_42 rfl ?_
          refine z_icmp_ne C 52 dX7_asking_43 (by decide) (fun h43 => ?_) (fun h43 => ?_)
          · skip
            refine z_aload_n C 1 dX7_asking_52 rfl ?_
            refine z_bipush C (v := 10) dX7_asking_53 rfl ?_
            refine z_callV1 C (c_X7_body l E _ (r := r + 0) (by omega) er0 10) ⟨rfl, rfl⟩ rfl rfl q_X7_297 ⟨by decide, by decide⟩ (Nat.le_of_ble_eq_true rfl) dX7_asking_55 (fun v F9 hp => ?_)
            obtain ⟨rfl, e9⟩ := hp
            rw [e9]
            clear e9 F9
            have er1 := bdS_46 (b := 10) er0
            refine z_iload_n C 3 dX7_asking_58 rfl ?_
            refine z_iload_n C 2 dX7_asking_59 rfl ?_
            refine z_iadd C dX7_asking_60 ?_
            refine z_istore C dX7_asking_61 (by decide) ?_
            refine z_iload_n C 1 dX7_asking_63 rfl ?_
            refine z_iconst C (v := 1) dX7_asking_64 rfl ?_
            refine z_icmp_eq C 73 dX7_asking_65 (by decide) (fun h65 => ?_) (fun h65 => ?_)
            · exact absurd h65 (by decide)
            · skip
              refine z_iload_n C 1 dX7_asking_68 rfl ?_
              refine z_iconst C (v := 3) dX7_asking_69 rfl ?_
              refine z_icmp_ne C 84 dX7_asking_70 (by decide) (fun h70 => ?_) (fun h70 => ?_)
              · skip
                refine z_iload_n C 1 dX7_asking_84 rfl ?_
                refine z_iconst C (v := 4) dX7_asking_85 rfl ?_
                refine z_icmp_eq C 95 dX7_asking_86 (by decide) (fun h86 => ?_) (fun h86 => ?_)
                · exact absurd h86 (by decide)
                · skip
                  refine z_iload_n C 1 dX7_asking_89 rfl ?_
                  refine z_bipush C (v := 6) dX7_asking_90 rfl ?_
                  refine z_icmp_ne C 101 dX7_asking_92 (by decide) (fun h92 => ?_) (fun h92 => ?_)
                  · skip
                    refine z_iload_n C 1 dX7_asking_101 rfl ?_
                    refine z_bipush C (v := 6) dX7_asking_102 rfl ?_
                    refine z_icmp_ne C 114 dX7_asking_104 (by decide) (fun h104 => ?_) (fun h104 => ?_)
                    · skip
                      refine z_iload C 0 dX7_asking_114 rfl ?_
                      refine z_iret C0 dX7_asking_116 ?_
                      exact ⟨rfl, rfl⟩
                    · exact absurd h104 (by decide)
                  · exact absurd h92 (by decide)
              · exact absurd h70 (by decide)
          · exact absurd h43 (by decide)
      · exact absurd h27 (by decide)
  · exact absurd h10 (by decide)
set_option maxRecDepth 100000 in
set_option maxHeartbeats 4000000 in
theorem c_selling2 (l : Launch) (E : zE) (M : zM) {j : Nat} (hj : j < 6) {r : Nat} (hr : r ≤ 15) (er0 : M.2.1 46 = nI r) (ek : M.1.2.1 j 0 = 2) (x : Int32) : MM l E yX7_selling cX7_selling 7 (some .int) 3 [.ref (madr E.2.2.1 (0, 0, 0)), .int (nI j), .int (x)] (M) (fun v M2 => v = some (.int (((x + nI j) * 2) * 3)) ∧ M2 = (bdS (bdS (bdS M 30) 11) 10)) := by
  refine MM.mk kq_X7 (Nat.le_of_ble_eq_true rfl) (fun K s C0 => ?_)
  have C := C0.c
  refine z_aload_n C 0 dX7_selling_0 rfl ?_
  refine mg_10 C dX7_selling_1 ?_
  refine z_iload_n C 1 dX7_selling_4 rfl ?_
  refine ml_10 C j rfl (by first | assumption | omega) dX7_selling_5 ?_
  refine z_top (2) (ek) ?_
  refine z_istore_n (i := 3) C dX7_selling_6 rfl (by decide) ?_
  refine z_iload_n C 3 dX7_selling_7 rfl ?_
  refine z_istore C dX7_selling_8 (by decide) ?_
  refine z_iload_n C 1 dX7_selling_10 rfl ?_
  refine z_bipush C (v := 6) dX7_selling_11 rfl ?_
  refine z_icmp_ne C 32 dX7_selling_13 (by decide) (fun h13 => ?_) (fun h13 => ?_)
  · skip
    refine z_iload_n C 1 dX7_selling_32 rfl ?_
    refine z_iconst C (v := 3) dX7_selling_33 rfl ?_
    refine z_icmp_ne C 48 dX7_selling_34 (by decide) (fun h34 => ?_) (fun h34 => ?_)
    · skip
      refine z_iload_n C 1 dX7_selling_48 rfl ?_
      refine z_iconst C (v := 2) dX7_selling_49 rfl ?_
      refine z_icmp_eq C 58 dX7_selling_50 (by decide) (fun h50 => ?_) (fun h50 => ?_)
      · skip
        refine z_iconst C (v := 1) dX7_selling_58 rfl ?_
        refine z_goto C 63 dX7_selling_59 (by decide) ?_
        refine z_istore C dX7_selling_63 (by decide) ?_
        refine z_iload C 0 dX7_selling_65 rfl ?_
        refine z_if_eq C 76 dX7_selling_67 (by decide) (fun h67 => ?_) (fun h67 => ?_)
        · exact absurd h67 (by decide)
        · skip
          refine z_aload_n C 3 dX7_selling_70 rfl ?_
          refine z_bipush C (v := 30) dX7_selling_71 rfl ?_
          refine z_callV1 C (c_X7_body l E _ (r := r + 0) (by omega) er0 30) ⟨rfl, rfl⟩ rfl rfl q_X7_297 ⟨by decide, by decide⟩ (Nat.le_of_ble_eq_true rfl) dX7_selling_73 (fun v F9 hp => ?_)
          obtain ⟨rfl, e9⟩ := hp
          rw [e9]
          clear e9 F9
          have er1 := bdS_46 (b := 30) er0
          refine z_aload_n C 3 dX7_selling_76 rfl ?_
          refine z_bipush C (v := 11) dX7_selling_77 rfl ?_
          refine z_callV1 C (c_X7_body l E _ (r := r + 1) (by omega) er1 11) ⟨rfl, rfl⟩ rfl rfl q_X7_297 ⟨by decide, by decide⟩ (Nat.le_of_ble_eq_true rfl) dX7_selling_79 (fun v F9 hp => ?_)
          obtain ⟨rfl, e9⟩ := hp
          rw [e9]
          clear e9 F9
          have er2 := bdS_46 (b := 11) er1
          refine z_aload_n C 3 dX7_selling_82 rfl ?_
          refine z_iload_n C 4 dX7_selling_83 rfl ?_
          refine z_iload C 1 dX7_selling_84 rfl ?_
          refine z_callV2 C (c_asking2 l E (bdS (bdS M 30) 11) hj (r := r + 2) (by omega) er2 (by simp only [bdS_1]; exact ek) _) ⟨rfl, rfl⟩ rfl rfl q_X7_300 ⟨by decide, by decide⟩ (Nat.le_of_ble_eq_true rfl) dX7_selling_86 (fun v F9 hp => ?_)
          obtain ⟨rfl, e9⟩ := hp
          rw [e9]
          clear e9 F9
          refine z_iconst C (v := 2) dX7_selling_89 rfl ?_
          refine z_imul C dX7_selling_90 ?_
          refine z_istore C dX7_selling_91 (by decide) ?_
          refine z_iload C 1 dX7_selling_93 rfl ?_
          refine z_if_eq C 105 dX7_selling_95 (by decide) (fun h95 => ?_) (fun h95 => ?_)
          · exact absurd h95 (by decide)
          · skip
            refine z_iload C 0 dX7_selling_98 rfl ?_
            refine z_iconst C (v := 3) dX7_selling_100 rfl ?_
            refine z_imul C dX7_selling_101 ?_
            refine z_goto C 107 dX7_selling_102 (by decide) ?_
            refine z_iret C0 dX7_selling_107 ?_
            exact ⟨rfl, rfl⟩
      · exact absurd h50 (by decide)
    · exact absurd h34 (by decide)
  · exact absurd h13 (by decide)
set_option maxRecDepth 100000 in
set_option maxHeartbeats 4000000 in
theorem c_shutting2 (l : Launch) (E : zE) (M : zM) {j : Nat} (hj : j < 6) {r : Nat} (hr : r = 0) (er0 : M.2.1 46 = nI r) (ek : M.1.2.1 j 0 = 2) (x : Int32) : MM l E yX7_shutting cX7_shutting 5 (some .int) 4 [.ref (madr E.2.2.1 (0, 0, 0)), .int (nI j), .int (x)] (M) (fun v M2 => v = some (.int ((((x + nI j) * 2) * 3) ^^^ ((x - M.1.2.1 j 1) + nI j))) ∧ M2 = (bdS (bdS (bdS (bdS (bdS M 12) 30) 11) 10) 10)) := by
  refine MM.mk kq_X7 (Nat.le_of_ble_eq_true rfl) (fun K s C0 => ?_)
  have C := C0.c
  refine z_aload_n C 0 dX7_shutting_0 rfl ?_
  refine mg_10 C dX7_shutting_1 ?_
  refine z_iload_n C 1 dX7_shutting_4 rfl ?_
  refine ml_10 C j rfl (by first | assumption | omega) dX7_shutting_5 ?_
  refine z_top (2) (ek) ?_
  refine z_istore_n (i := 3) C dX7_shutting_6 rfl (by decide) ?_
  refine z_iload_n C 0 dX7_shutting_7 rfl ?_
  refine z_iconst C (v := 4) dX7_shutting_8 rfl ?_
  refine z_icmp_eq C 18 dX7_shutting_9 (by decide) (fun h9 => ?_) (fun h9 => ?_)
  · exact absurd h9 (by decide)
  · skip
    refine z_iload_n C 0 dX7_shutting_12 rfl ?_
    refine z_bipush C (v := 6) dX7_shutting_13 rfl ?_
    refine z_icmp_ne C 24 dX7_shutting_15 (by decide) (fun h15 => ?_) (fun h15 => ?_)
    · skip
      refine z_iload_n C 0 dX7_shutting_24 rfl ?_
      refine z_iconst C (v := 5) dX7_shutting_25 rfl ?_
      refine z_icmp_ne C 35 dX7_shutting_26 (by decide) (fun h26 => ?_) (fun h26 => ?_)
      · skip
        refine z_aload_n C 1 dX7_shutting_35 rfl ?_
        refine z_bipush C (v := 12) dX7_shutting_36 rfl ?_
        refine z_callV1 C (c_X7_body l E _ (r := r + 0) (by omega) er0 12) ⟨rfl, rfl⟩ rfl rfl q_X7_297 ⟨by decide, by decide⟩ (Nat.le_of_ble_eq_true rfl) dX7_shutting_38 (fun v F9 hp => ?_)
        obtain ⟨rfl, e9⟩ := hp
        rw [e9]
        clear e9 F9
        have er1 := bdS_46 (b := 12) er0
        refine z_aload_n C 1 dX7_shutting_41 rfl ?_
        refine z_iload_n C 2 dX7_shutting_42 rfl ?_
        refine z_iload_n C 3 dX7_shutting_43 rfl ?_
        refine z_callV2 C (c_selling2 l E (bdS M 12) hj (r := r + 1) (by omega) er1 (by simp only [bdS_1]; exact ek) _) ⟨rfl, rfl⟩ rfl rfl q_X7_303 ⟨by decide, by decide⟩ (Nat.le_of_ble_eq_true rfl) dX7_shutting_44 (fun v F9 hp => ?_)
        obtain ⟨rfl, e9⟩ := hp
        rw [e9]
        clear e9 F9
        have er2 := bdS_46 (b := 30) er1
        have er3 := bdS_46 (b := 11) er2
        have er4 := bdS_46 (b := 10) er3
        refine z_istore C dX7_shutting_47 (by decide) ?_
        refine z_iload C 0 dX7_shutting_49 rfl ?_
        refine z_aload_n C 2 dX7_shutting_51 rfl ?_
        refine z_iload_n C 3 dX7_shutting_52 rfl ?_
        refine z_iload_n C 4 dX7_shutting_53 rfl ?_
        refine z_aload_n C 2 dX7_shutting_54 rfl ?_
        refine mg_11 C dX7_shutting_55 ?_
        refine z_iload_n C 3 dX7_shutting_58 rfl ?_
        refine ml_11 C j rfl (by first | assumption | omega) dX7_shutting_59 ?_
        refine z_isub C dX7_shutting_60 ?_
        refine z_callV2 C (c_asking2 l E (bdS (bdS (bdS (bdS M 12) 30) 11) 10) hj (r := r + 4) (by omega) er4 (by simp only [bdS_1]; exact ek) _) ⟨rfl, rfl⟩ rfl rfl q_X7_300 ⟨by decide, by decide⟩ (Nat.le_of_ble_eq_true rfl) dX7_shutting_61 (fun v F9 hp => ?_)
        obtain ⟨rfl, e9⟩ := hp
        rw [e9]
        clear e9 F9
        refine z_ixor C dX7_shutting_64 ?_
        refine z_top ((((x + nI j) * 2) * 3) ^^^ ((x - M.1.2.1 j 1) + nI j)) (by simp only [bdS_1]) ?_
        refine z_istore C dX7_shutting_65 (by decide) ?_
        refine z_iload_n C 1 dX7_shutting_67 rfl ?_
        refine z_iconst C (v := 4) dX7_shutting_68 rfl ?_
        refine z_icmp_eq C 78 dX7_shutting_69 (by decide) (fun h69 => ?_) (fun h69 => ?_)
        · exact absurd h69 (by decide)
        · skip
          refine z_iload_n C 1 dX7_shutting_72 rfl ?_
          refine z_bipush C (v := 6) dX7_shutting_73 rfl ?_
          refine z_icmp_ne C 84 dX7_shutting_75 (by decide) (fun h75 => ?_) (fun h75 => ?_)
          · skip
            refine z_iload_n C 1 dX7_shutting_84 rfl ?_
            refine z_iconst C (v := 5) dX7_shutting_85 rfl ?_
            refine z_icmp_ne C 96 dX7_shutting_86 (by decide) (fun h86 => ?_) (fun h86 => ?_)
            · skip
              refine z_iload C 0 dX7_shutting_96 rfl ?_
              refine z_iret C0 dX7_shutting_98 ?_
              exact ⟨rfl, rfl⟩
            · exact absurd h86 (by decide)
          · exact absurd h75 (by decide)
      · exact absurd h26 (by decide)
    · exact absurd h15 (by decide)
set_option maxRecDepth 100000 in
set_option maxHeartbeats 4000000 in
theorem c_asking3 (l : Launch) (E : zE) (M : zM) {j : Nat} (hj : j < 6) {r : Nat} (hr : r ≤ 20) (er0 : M.2.1 46 = nI r) (ek : M.1.2.1 j 0 = 3) (x : Int32) : MM l E yX7_asking cX7_asking 5 (some .int) 2 [.ref (madr E.2.2.1 (0, 0, 0)), .int (nI j), .int (x)] (M) (fun v M2 => v = some (.int ((x + nI j) + M.1.2.1 j 1)) ∧ M2 = (bdS (bdS M 20) 10)) := by
  refine MM.mk kq_X7 (Nat.le_of_ble_eq_true rfl) (fun K s C0 => ?_)
  have C := C0.c
  refine z_aload_n C 0 dX7_asking_0 rfl ?_
  refine mg_10 C dX7_asking_1 ?_
  refine z_iload_n C 1 dX7_asking_4 rfl ?_
  refine ml_10 C j rfl (by first | assumption | omega) dX7_asking_5 ?_
  refine z_top (3) (ek) ?_
  refine z_istore_n (i := 3) C dX7_asking_6 rfl (by decide) ?_
  refine z_iload_n C 0 dX7_asking_7 rfl ?_
  refine z_bipush C (v := 6) dX7_asking_8 rfl ?_
  refine z_icmp_ne C 19 dX7_asking_10 (by decide) (fun h10 => ?_) (fun h10 => ?_)
  · skip
    refine z_iload_n C 0 dX7_asking_19 rfl ?_
    refine z_iconst C (v := 4) dX7_asking_20 rfl ?_
    refine z_icmp_eq C 30 dX7_asking_21 (by decide) (fun h21 => ?_) (fun h21 => ?_)
    · exact absurd h21 (by decide)
    · skip
      refine z_iload_n C 0 dX7_asking_24 rfl ?_
      refine z_bipush C (v := 6) dX7_asking_25 rfl ?_
      refine z_icmp_ne C 36 dX7_asking_27 (by decide) (fun h27 => ?_) (fun h27 => ?_)
      · skip
        refine z_iload_n C 0 dX7_asking_36 rfl ?_
        refine z_iconst C (v := 1) dX7_asking_37 rfl ?_
        refine z_icmp_eq C 46 dX7_asking_38 (by decide) (fun h38 => ?_) (fun h38 => ?_)
        · exact absurd h38 (by decide)
        · skip
          refine z_iload_n C 0 dX7_asking_41 rfl ?_
          refine z_iconst C (v := 3) dX7_asking_42 rfl ?_
          refine z_icmp_ne C 52 dX7_asking_43 (by decide) (fun h43 => ?_) (fun h43 => ?_)
          · exact absurd h43 (by decide)
          · skip
            refine z_aload_n C 1 dX7_asking_46 rfl ?_
            refine z_bipush C (v := 20) dX7_asking_47 rfl ?_
            refine z_callV1 C (c_X7_body l E _ (r := r + 0) (by omega) er0 20) ⟨rfl, rfl⟩ rfl rfl q_X7_297 ⟨by decide, by decide⟩ (Nat.le_of_ble_eq_true rfl) dX7_asking_49 (fun v F9 hp => ?_)
            obtain ⟨rfl, e9⟩ := hp
            rw [e9]
            clear e9 F9
            have er1 := bdS_46 (b := 20) er0
            refine z_aload_n C 1 dX7_asking_52 rfl ?_
            refine z_bipush C (v := 10) dX7_asking_53 rfl ?_
            refine z_callV1 C (c_X7_body l E _ (r := r + 1) (by omega) er1 10) ⟨rfl, rfl⟩ rfl rfl q_X7_297 ⟨by decide, by decide⟩ (Nat.le_of_ble_eq_true rfl) dX7_asking_55 (fun v F9 hp => ?_)
            obtain ⟨rfl, e9⟩ := hp
            rw [e9]
            clear e9 F9
            have er2 := bdS_46 (b := 10) er1
            refine z_iload_n C 3 dX7_asking_58 rfl ?_
            refine z_iload_n C 2 dX7_asking_59 rfl ?_
            refine z_iadd C dX7_asking_60 ?_
            refine z_istore C dX7_asking_61 (by decide) ?_
            refine z_iload_n C 1 dX7_asking_63 rfl ?_
            refine z_iconst C (v := 1) dX7_asking_64 rfl ?_
            refine z_icmp_eq C 73 dX7_asking_65 (by decide) (fun h65 => ?_) (fun h65 => ?_)
            · exact absurd h65 (by decide)
            · skip
              refine z_iload_n C 1 dX7_asking_68 rfl ?_
              refine z_iconst C (v := 3) dX7_asking_69 rfl ?_
              refine z_icmp_ne C 84 dX7_asking_70 (by decide) (fun h70 => ?_) (fun h70 => ?_)
              · exact absurd h70 (by decide)
              · skip
                refine z_iload C 0 dX7_asking_73 rfl ?_
                refine z_aload_n C 2 dX7_asking_75 rfl ?_
                refine mg_11 C dX7_asking_76 ?_
                refine z_iload_n C 3 dX7_asking_79 rfl ?_
                refine ml_11 C j rfl (by first | assumption | omega) dX7_asking_80 ?_
                refine z_top (M.1.2.1 j 1) (by simp only [bdS_1]) ?_
                refine z_iadd C dX7_asking_81 ?_
                refine z_istore C dX7_asking_82 (by decide) ?_
                refine z_iload_n C 1 dX7_asking_84 rfl ?_
                refine z_iconst C (v := 4) dX7_asking_85 rfl ?_
                refine z_icmp_eq C 95 dX7_asking_86 (by decide) (fun h86 => ?_) (fun h86 => ?_)
                · exact absurd h86 (by decide)
                · skip
                  refine z_iload_n C 1 dX7_asking_89 rfl ?_
                  refine z_bipush C (v := 6) dX7_asking_90 rfl ?_
                  refine z_icmp_ne C 101 dX7_asking_92 (by decide) (fun h92 => ?_) (fun h92 => ?_)
                  · skip
                    refine z_iload_n C 1 dX7_asking_101 rfl ?_
                    refine z_bipush C (v := 6) dX7_asking_102 rfl ?_
                    refine z_icmp_ne C 114 dX7_asking_104 (by decide) (fun h104 => ?_) (fun h104 => ?_)
                    · skip
                      refine z_iload C 0 dX7_asking_114 rfl ?_
                      refine z_iret C0 dX7_asking_116 ?_
                      exact ⟨rfl, rfl⟩
                    · exact absurd h104 (by decide)
                  · exact absurd h92 (by decide)
      · exact absurd h27 (by decide)
  · exact absurd h10 (by decide)
set_option maxRecDepth 100000 in
set_option maxHeartbeats 4000000 in
theorem c_selling3 (l : Launch) (E : zE) (M : zM) {j : Nat} (hj : j < 6) {r : Nat} (hr : r ≤ 15) (er0 : M.2.1 46 = nI r) (ek : M.1.2.1 j 0 = 3) (x : Int32) : MM l E yX7_selling cX7_selling 7 (some .int) 3 [.ref (madr E.2.2.1 (0, 0, 0)), .int (nI j), .int (x)] (M) (fun v M2 => v = some (.int ((((x + 1) + nI j) + M.1.2.1 j 1) * 2)) ∧ M2 = (bdS (bdS (bdS (bdS M 40) 11) 20) 10)) := by
  refine MM.mk kq_X7 (Nat.le_of_ble_eq_true rfl) (fun K s C0 => ?_)
  have C := C0.c
  refine z_aload_n C 0 dX7_selling_0 rfl ?_
  refine mg_10 C dX7_selling_1 ?_
  refine z_iload_n C 1 dX7_selling_4 rfl ?_
  refine ml_10 C j rfl (by first | assumption | omega) dX7_selling_5 ?_
  refine z_top (3) (ek) ?_
  refine z_istore_n (i := 3) C dX7_selling_6 rfl (by decide) ?_
  refine z_iload_n C 3 dX7_selling_7 rfl ?_
  refine z_istore C dX7_selling_8 (by decide) ?_
  refine z_iload_n C 1 dX7_selling_10 rfl ?_
  refine z_bipush C (v := 6) dX7_selling_11 rfl ?_
  refine z_icmp_ne C 32 dX7_selling_13 (by decide) (fun h13 => ?_) (fun h13 => ?_)
  · skip
    refine z_iload_n C 1 dX7_selling_32 rfl ?_
    refine z_iconst C (v := 3) dX7_selling_33 rfl ?_
    refine z_icmp_ne C 48 dX7_selling_34 (by decide) (fun h34 => ?_) (fun h34 => ?_)
    · exact absurd h34 (by decide)
    · skip
      refine z_aload_n C 2 dX7_selling_37 rfl ?_
      refine z_bipush C (v := 40) dX7_selling_38 rfl ?_
      refine z_callV1 C (c_X7_body l E _ (r := r + 0) (by omega) er0 40) ⟨rfl, rfl⟩ rfl rfl q_X7_297 ⟨by decide, by decide⟩ (Nat.le_of_ble_eq_true rfl) dX7_selling_40 (fun v F9 hp => ?_)
      obtain ⟨rfl, e9⟩ := hp
      rw [e9]
      clear e9 F9
      have er1 := bdS_46 (b := 40) er0
      refine z_iload_n C 4 dX7_selling_43 rfl ?_
      refine z_iconst C (v := 1) dX7_selling_44 rfl ?_
      refine z_iadd C dX7_selling_45 ?_
      refine z_istore C dX7_selling_46 (by decide) ?_
      refine z_iload_n C 1 dX7_selling_48 rfl ?_
      refine z_iconst C (v := 2) dX7_selling_49 rfl ?_
      refine z_icmp_eq C 58 dX7_selling_50 (by decide) (fun h50 => ?_) (fun h50 => ?_)
      · exact absurd h50 (by decide)
      · skip
        refine z_iload_n C 1 dX7_selling_53 rfl ?_
        refine z_iconst C (v := 5) dX7_selling_54 rfl ?_
        refine z_icmp_ne C 62 dX7_selling_55 (by decide) (fun h55 => ?_) (fun h55 => ?_)
        · skip
          refine z_iconst C (v := 0) dX7_selling_62 rfl ?_
          refine z_istore C dX7_selling_63 (by decide) ?_
          refine z_iload C 0 dX7_selling_65 rfl ?_
          refine z_if_eq C 76 dX7_selling_67 (by decide) (fun h67 => ?_) (fun h67 => ?_)
          · skip
            refine z_aload_n C 3 dX7_selling_76 rfl ?_
            refine z_bipush C (v := 11) dX7_selling_77 rfl ?_
            refine z_callV1 C (c_X7_body l E _ (r := r + 1) (by omega) er1 11) ⟨rfl, rfl⟩ rfl rfl q_X7_297 ⟨by decide, by decide⟩ (Nat.le_of_ble_eq_true rfl) dX7_selling_79 (fun v F9 hp => ?_)
            obtain ⟨rfl, e9⟩ := hp
            rw [e9]
            clear e9 F9
            have er2 := bdS_46 (b := 11) er1
            refine z_aload_n C 3 dX7_selling_82 rfl ?_
            refine z_iload_n C 4 dX7_selling_83 rfl ?_
            refine z_iload C 1 dX7_selling_84 rfl ?_
            refine z_callV2 C (c_asking3 l E (bdS (bdS M 40) 11) hj (r := r + 2) (by omega) er2 (by simp only [bdS_1]; exact ek) _) ⟨rfl, rfl⟩ rfl rfl q_X7_300 ⟨by decide, by decide⟩ (Nat.le_of_ble_eq_true rfl) dX7_selling_86 (fun v F9 hp => ?_)
            obtain ⟨rfl, e9⟩ := hp
            rw [e9]
            clear e9 F9
            refine z_top ((((x + 1) + nI j) + M.1.2.1 j 1)) (by simp only [bdS_1]) ?_
            refine z_iconst C (v := 2) dX7_selling_89 rfl ?_
            refine z_imul C dX7_selling_90 ?_
            refine z_istore C dX7_selling_91 (by decide) ?_
            refine z_iload C 1 dX7_selling_93 rfl ?_
            refine z_if_eq C 105 dX7_selling_95 (by decide) (fun h95 => ?_) (fun h95 => ?_)
            · skip
              refine z_iload C 0 dX7_selling_105 rfl ?_
              refine z_iret C0 dX7_selling_107 ?_
              exact ⟨rfl, rfl⟩
            · exact absurd h95 (by decide)
          · exact absurd h67 (by decide)
        · exact absurd h55 (by decide)
  · exact absurd h13 (by decide)
set_option maxRecDepth 100000 in
set_option maxHeartbeats 4000000 in
theorem c_shutting3 (l : Launch) (E : zE) (M : zM) {j : Nat} (hj : j < 6) {r : Nat} (hr : r = 0) (er0 : M.2.1 46 = nI r) (ek : M.1.2.1 j 0 = 3) (x : Int32) : MM l E yX7_shutting cX7_shutting 5 (some .int) 4 [.ref (madr E.2.2.1 (0, 0, 0)), .int (nI j), .int (x)] (M) (fun v M2 => v = some (.int (((((x + 1) + nI j) + M.1.2.1 j 1) * 2) ^^^ (((x - M.1.2.1 j 1) + nI j) + M.1.2.1 j 1))) ∧ M2 = (bdS (bdS (bdS (bdS (bdS (bdS (bdS M 12) 40) 11) 20) 10) 20) 10)) := by
  refine MM.mk kq_X7 (Nat.le_of_ble_eq_true rfl) (fun K s C0 => ?_)
  have C := C0.c
  refine z_aload_n C 0 dX7_shutting_0 rfl ?_
  refine mg_10 C dX7_shutting_1 ?_
  refine z_iload_n C 1 dX7_shutting_4 rfl ?_
  refine ml_10 C j rfl (by first | assumption | omega) dX7_shutting_5 ?_
  refine z_top (3) (ek) ?_
  refine z_istore_n (i := 3) C dX7_shutting_6 rfl (by decide) ?_
  refine z_iload_n C 0 dX7_shutting_7 rfl ?_
  refine z_iconst C (v := 4) dX7_shutting_8 rfl ?_
  refine z_icmp_eq C 18 dX7_shutting_9 (by decide) (fun h9 => ?_) (fun h9 => ?_)
  · exact absurd h9 (by decide)
  · skip
    refine z_iload_n C 0 dX7_shutting_12 rfl ?_
    refine z_bipush C (v := 6) dX7_shutting_13 rfl ?_
    refine z_icmp_ne C 24 dX7_shutting_15 (by decide) (fun h15 => ?_) (fun h15 => ?_)
    · skip
      refine z_iload_n C 0 dX7_shutting_24 rfl ?_
      refine z_iconst C (v := 5) dX7_shutting_25 rfl ?_
      refine z_icmp_ne C 35 dX7_shutting_26 (by decide) (fun h26 => ?_) (fun h26 => ?_)
      · skip
        refine z_aload_n C 1 dX7_shutting_35 rfl ?_
        refine z_bipush C (v := 12) dX7_shutting_36 rfl ?_
        refine z_callV1 C (c_X7_body l E _ (r := r + 0) (by omega) er0 12) ⟨rfl, rfl⟩ rfl rfl q_X7_297 ⟨by decide, by decide⟩ (Nat.le_of_ble_eq_true rfl) dX7_shutting_38 (fun v F9 hp => ?_)
        obtain ⟨rfl, e9⟩ := hp
        rw [e9]
        clear e9 F9
        have er1 := bdS_46 (b := 12) er0
        refine z_aload_n C 1 dX7_shutting_41 rfl ?_
        refine z_iload_n C 2 dX7_shutting_42 rfl ?_
        refine z_iload_n C 3 dX7_shutting_43 rfl ?_
        refine z_callV2 C (c_selling3 l E (bdS M 12) hj (r := r + 1) (by omega) er1 (by simp only [bdS_1]; exact ek) _) ⟨rfl, rfl⟩ rfl rfl q_X7_303 ⟨by decide, by decide⟩ (Nat.le_of_ble_eq_true rfl) dX7_shutting_44 (fun v F9 hp => ?_)
        obtain ⟨rfl, e9⟩ := hp
        rw [e9]
        clear e9 F9
        have er2 := bdS_46 (b := 40) er1
        have er3 := bdS_46 (b := 11) er2
        have er4 := bdS_46 (b := 20) er3
        have er5 := bdS_46 (b := 10) er4
        refine z_istore C dX7_shutting_47 (by decide) ?_
        refine z_iload C 0 dX7_shutting_49 rfl ?_
        refine z_aload_n C 2 dX7_shutting_51 rfl ?_
        refine z_iload_n C 3 dX7_shutting_52 rfl ?_
        refine z_iload_n C 4 dX7_shutting_53 rfl ?_
        refine z_aload_n C 2 dX7_shutting_54 rfl ?_
        refine mg_11 C dX7_shutting_55 ?_
        refine z_iload_n C 3 dX7_shutting_58 rfl ?_
        refine ml_11 C j rfl (by first | assumption | omega) dX7_shutting_59 ?_
        refine z_isub C dX7_shutting_60 ?_
        refine z_callV2 C (c_asking3 l E (bdS (bdS (bdS (bdS (bdS M 12) 40) 11) 20) 10) hj (r := r + 5) (by omega) er5 (by simp only [bdS_1]; exact ek) _) ⟨rfl, rfl⟩ rfl rfl q_X7_300 ⟨by decide, by decide⟩ (Nat.le_of_ble_eq_true rfl) dX7_shutting_61 (fun v F9 hp => ?_)
        obtain ⟨rfl, e9⟩ := hp
        rw [e9]
        clear e9 F9
        refine z_ixor C dX7_shutting_64 ?_
        refine z_top (((((x + 1) + nI j) + M.1.2.1 j 1) * 2) ^^^ (((x - M.1.2.1 j 1) + nI j) + M.1.2.1 j 1)) (by simp only [bdS_1]) ?_
        refine z_istore C dX7_shutting_65 (by decide) ?_
        refine z_iload_n C 1 dX7_shutting_67 rfl ?_
        refine z_iconst C (v := 4) dX7_shutting_68 rfl ?_
        refine z_icmp_eq C 78 dX7_shutting_69 (by decide) (fun h69 => ?_) (fun h69 => ?_)
        · exact absurd h69 (by decide)
        · skip
          refine z_iload_n C 1 dX7_shutting_72 rfl ?_
          refine z_bipush C (v := 6) dX7_shutting_73 rfl ?_
          refine z_icmp_ne C 84 dX7_shutting_75 (by decide) (fun h75 => ?_) (fun h75 => ?_)
          · skip
            refine z_iload_n C 1 dX7_shutting_84 rfl ?_
            refine z_iconst C (v := 5) dX7_shutting_85 rfl ?_
            refine z_icmp_ne C 96 dX7_shutting_86 (by decide) (fun h86 => ?_) (fun h86 => ?_)
            · skip
              refine z_iload C 0 dX7_shutting_96 rfl ?_
              refine z_iret C0 dX7_shutting_98 ?_
              exact ⟨rfl, rfl⟩
            · exact absurd h86 (by decide)
          · exact absurd h75 (by decide)
      · exact absurd h26 (by decide)
    · exact absurd h15 (by decide)
set_option maxRecDepth 100000 in
set_option maxHeartbeats 4000000 in
theorem c_asking4 (l : Launch) (E : zE) (M : zM) {j : Nat} (hj : j < 6) {r : Nat} (hr : r ≤ 20) (er0 : M.2.1 46 = nI r) (ek : M.1.2.1 j 0 = 4) (x : Int32) : MM l E yX7_asking cX7_asking 5 (some .int) 2 [.ref (madr E.2.2.1 (0, 0, 0)), .int (nI j), .int (x)] (M) (fun v M2 => v = some (.int ((x + nI j) - nI j)) ∧ M2 = (bdS (bdS M 51) 10)) := by
  refine MM.mk kq_X7 (Nat.le_of_ble_eq_true rfl) (fun K s C0 => ?_)
  have C := C0.c
  refine z_aload_n C 0 dX7_asking_0 rfl ?_
  refine mg_10 C dX7_asking_1 ?_
  refine z_iload_n C 1 dX7_asking_4 rfl ?_
  refine ml_10 C j rfl (by first | assumption | omega) dX7_asking_5 ?_
  refine z_top (4) (ek) ?_
  refine z_istore_n (i := 3) C dX7_asking_6 rfl (by decide) ?_
  refine z_iload_n C 0 dX7_asking_7 rfl ?_
  refine z_bipush C (v := 6) dX7_asking_8 rfl ?_
  refine z_icmp_ne C 19 dX7_asking_10 (by decide) (fun h10 => ?_) (fun h10 => ?_)
  · skip
    refine z_iload_n C 0 dX7_asking_19 rfl ?_
    refine z_iconst C (v := 4) dX7_asking_20 rfl ?_
    refine z_icmp_eq C 30 dX7_asking_21 (by decide) (fun h21 => ?_) (fun h21 => ?_)
    · skip
      refine z_aload_n C 1 dX7_asking_30 rfl ?_
      refine z_bipush C (v := 51) dX7_asking_31 rfl ?_
      refine z_callV1 C (c_X7_body l E _ (r := r + 0) (by omega) er0 51) ⟨rfl, rfl⟩ rfl rfl q_X7_297 ⟨by decide, by decide⟩ (Nat.le_of_ble_eq_true rfl) dX7_asking_33 (fun v F9 hp => ?_)
      obtain ⟨rfl, e9⟩ := hp
      rw [e9]
      clear e9 F9
      have er1 := bdS_46 (b := 51) er0
      refine z_iload_n C 0 dX7_asking_36 rfl ?_
      refine z_iconst C (v := 1) dX7_asking_37 rfl ?_
      refine z_icmp_eq C 46 dX7_asking_38 (by decide) (fun h38 => ?_) (fun h38 => ?_)
      · exact absurd h38 (by decide)
      · skip
        refine z_iload_n C 0 dX7_asking_41 rfl ?_
        refine z_iconst C (v := 3) dX7_asking_42 rfl ?_
        refine z_icmp_ne C 52 dX7_asking_43 (by decide) (fun h43 => ?_) (fun h43 => ?_)
        · skip
          refine z_aload_n C 1 dX7_asking_52 rfl ?_
          refine z_bipush C (v := 10) dX7_asking_53 rfl ?_
          refine z_callV1 C (c_X7_body l E _ (r := r + 1) (by omega) er1 10) ⟨rfl, rfl⟩ rfl rfl q_X7_297 ⟨by decide, by decide⟩ (Nat.le_of_ble_eq_true rfl) dX7_asking_55 (fun v F9 hp => ?_)
          obtain ⟨rfl, e9⟩ := hp
          rw [e9]
          clear e9 F9
          have er2 := bdS_46 (b := 10) er1
          refine z_iload_n C 3 dX7_asking_58 rfl ?_
          refine z_iload_n C 2 dX7_asking_59 rfl ?_
          refine z_iadd C dX7_asking_60 ?_
          refine z_istore C dX7_asking_61 (by decide) ?_
          refine z_iload_n C 1 dX7_asking_63 rfl ?_
          refine z_iconst C (v := 1) dX7_asking_64 rfl ?_
          refine z_icmp_eq C 73 dX7_asking_65 (by decide) (fun h65 => ?_) (fun h65 => ?_)
          · exact absurd h65 (by decide)
          · skip
            refine z_iload_n C 1 dX7_asking_68 rfl ?_
            refine z_iconst C (v := 3) dX7_asking_69 rfl ?_
            refine z_icmp_ne C 84 dX7_asking_70 (by decide) (fun h70 => ?_) (fun h70 => ?_)
            · skip
              refine z_iload_n C 1 dX7_asking_84 rfl ?_
              refine z_iconst C (v := 4) dX7_asking_85 rfl ?_
              refine z_icmp_eq C 95 dX7_asking_86 (by decide) (fun h86 => ?_) (fun h86 => ?_)
              · skip
                refine z_iload C 0 dX7_asking_95 rfl ?_
                refine z_iload_n C 3 dX7_asking_97 rfl ?_
                refine z_isub C dX7_asking_98 ?_
                refine z_istore C dX7_asking_99 (by decide) ?_
                refine z_iload_n C 1 dX7_asking_101 rfl ?_
                refine z_bipush C (v := 6) dX7_asking_102 rfl ?_
                refine z_icmp_ne C 114 dX7_asking_104 (by decide) (fun h104 => ?_) (fun h104 => ?_)
                · skip
                  refine z_iload C 0 dX7_asking_114 rfl ?_
                  refine z_iret C0 dX7_asking_116 ?_
                  exact ⟨rfl, rfl⟩
                · exact absurd h104 (by decide)
              · exact absurd h86 (by decide)
            · exact absurd h70 (by decide)
        · exact absurd h43 (by decide)
    · exact absurd h21 (by decide)
  · exact absurd h10 (by decide)
set_option maxRecDepth 100000 in
set_option maxHeartbeats 4000000 in
theorem c_selling4 (l : Launch) (E : zE) (M : zM) {j : Nat} (hj : j < 6) {r : Nat} (hr : r ≤ 15) (er0 : M.2.1 46 = nI r) (ek : M.1.2.1 j 0 = 4) (x : Int32) : MM l E yX7_selling cX7_selling 7 (some .int) 3 [.ref (madr E.2.2.1 (0, 0, 0)), .int (nI j), .int (x)] (M) (fun v M2 => v = some (.int (((x + nI j) - nI j) * 2)) ∧ M2 = (bdS (bdS (bdS M 11) 51) 10)) := by
  refine MM.mk kq_X7 (Nat.le_of_ble_eq_true rfl) (fun K s C0 => ?_)
  have C := C0.c
  refine z_aload_n C 0 dX7_selling_0 rfl ?_
  refine mg_10 C dX7_selling_1 ?_
  refine z_iload_n C 1 dX7_selling_4 rfl ?_
  refine ml_10 C j rfl (by first | assumption | omega) dX7_selling_5 ?_
  refine z_top (4) (ek) ?_
  refine z_istore_n (i := 3) C dX7_selling_6 rfl (by decide) ?_
  refine z_iload_n C 3 dX7_selling_7 rfl ?_
  refine z_istore C dX7_selling_8 (by decide) ?_
  refine z_iload_n C 1 dX7_selling_10 rfl ?_
  refine z_bipush C (v := 6) dX7_selling_11 rfl ?_
  refine z_icmp_ne C 32 dX7_selling_13 (by decide) (fun h13 => ?_) (fun h13 => ?_)
  · skip
    refine z_iload_n C 1 dX7_selling_32 rfl ?_
    refine z_iconst C (v := 3) dX7_selling_33 rfl ?_
    refine z_icmp_ne C 48 dX7_selling_34 (by decide) (fun h34 => ?_) (fun h34 => ?_)
    · skip
      refine z_iload_n C 1 dX7_selling_48 rfl ?_
      refine z_iconst C (v := 2) dX7_selling_49 rfl ?_
      refine z_icmp_eq C 58 dX7_selling_50 (by decide) (fun h50 => ?_) (fun h50 => ?_)
      · exact absurd h50 (by decide)
      · skip
        refine z_iload_n C 1 dX7_selling_53 rfl ?_
        refine z_iconst C (v := 5) dX7_selling_54 rfl ?_
        refine z_icmp_ne C 62 dX7_selling_55 (by decide) (fun h55 => ?_) (fun h55 => ?_)
        · skip
          refine z_iconst C (v := 0) dX7_selling_62 rfl ?_
          refine z_istore C dX7_selling_63 (by decide) ?_
          refine z_iload C 0 dX7_selling_65 rfl ?_
          refine z_if_eq C 76 dX7_selling_67 (by decide) (fun h67 => ?_) (fun h67 => ?_)
          · skip
            refine z_aload_n C 3 dX7_selling_76 rfl ?_
            refine z_bipush C (v := 11) dX7_selling_77 rfl ?_
            refine z_callV1 C (c_X7_body l E _ (r := r + 0) (by omega) er0 11) ⟨rfl, rfl⟩ rfl rfl q_X7_297 ⟨by decide, by decide⟩ (Nat.le_of_ble_eq_true rfl) dX7_selling_79 (fun v F9 hp => ?_)
            obtain ⟨rfl, e9⟩ := hp
            rw [e9]
            clear e9 F9
            have er1 := bdS_46 (b := 11) er0
            refine z_aload_n C 3 dX7_selling_82 rfl ?_
            refine z_iload_n C 4 dX7_selling_83 rfl ?_
            refine z_iload C 1 dX7_selling_84 rfl ?_
            refine z_callV2 C (c_asking4 l E (bdS M 11) hj (r := r + 1) (by omega) er1 (by simp only [bdS_1]; exact ek) _) ⟨rfl, rfl⟩ rfl rfl q_X7_300 ⟨by decide, by decide⟩ (Nat.le_of_ble_eq_true rfl) dX7_selling_86 (fun v F9 hp => ?_)
            obtain ⟨rfl, e9⟩ := hp
            rw [e9]
            clear e9 F9
            refine z_iconst C (v := 2) dX7_selling_89 rfl ?_
            refine z_imul C dX7_selling_90 ?_
            refine z_istore C dX7_selling_91 (by decide) ?_
            refine z_iload C 1 dX7_selling_93 rfl ?_
            refine z_if_eq C 105 dX7_selling_95 (by decide) (fun h95 => ?_) (fun h95 => ?_)
            · skip
              refine z_iload C 0 dX7_selling_105 rfl ?_
              refine z_iret C0 dX7_selling_107 ?_
              exact ⟨rfl, rfl⟩
            · exact absurd h95 (by decide)
          · exact absurd h67 (by decide)
        · exact absurd h55 (by decide)
    · exact absurd h34 (by decide)
  · exact absurd h13 (by decide)
set_option maxRecDepth 100000 in
set_option maxHeartbeats 4000000 in
theorem c_shutting4 (l : Launch) (E : zE) (M : zM) {j : Nat} (hj : j < 6) {r : Nat} (hr : r = 0) (er0 : M.2.1 46 = nI r) (ek : M.1.2.1 j 0 = 4) (x : Int32) : MM l E yX7_shutting cX7_shutting 5 (some .int) 4 [.ref (madr E.2.2.1 (0, 0, 0)), .int (nI j), .int (x)] (M) (fun v M2 => v = some (.int (-((((x + nI j) - nI j) * 2) ^^^ (((x - M.1.2.1 j 1) + nI j) - nI j)))) ∧ M2 = (bdS (bdS (bdS (bdS (bdS (bdS (bdS M 50) 12) 11) 51) 10) 51) 10)) := by
  refine MM.mk kq_X7 (Nat.le_of_ble_eq_true rfl) (fun K s C0 => ?_)
  have C := C0.c
  refine z_aload_n C 0 dX7_shutting_0 rfl ?_
  refine mg_10 C dX7_shutting_1 ?_
  refine z_iload_n C 1 dX7_shutting_4 rfl ?_
  refine ml_10 C j rfl (by first | assumption | omega) dX7_shutting_5 ?_
  refine z_top (4) (ek) ?_
  refine z_istore_n (i := 3) C dX7_shutting_6 rfl (by decide) ?_
  refine z_iload_n C 0 dX7_shutting_7 rfl ?_
  refine z_iconst C (v := 4) dX7_shutting_8 rfl ?_
  refine z_icmp_eq C 18 dX7_shutting_9 (by decide) (fun h9 => ?_) (fun h9 => ?_)
  · skip
    refine z_aload_n C 1 dX7_shutting_18 rfl ?_
    refine z_bipush C (v := 50) dX7_shutting_19 rfl ?_
    refine z_callV1 C (c_X7_body l E _ (r := r + 0) (by omega) er0 50) ⟨rfl, rfl⟩ rfl rfl q_X7_297 ⟨by decide, by decide⟩ (Nat.le_of_ble_eq_true rfl) dX7_shutting_21 (fun v F9 hp => ?_)
    obtain ⟨rfl, e9⟩ := hp
    rw [e9]
    clear e9 F9
    have er1 := bdS_46 (b := 50) er0
    refine z_iload_n C 0 dX7_shutting_24 rfl ?_
    refine z_iconst C (v := 5) dX7_shutting_25 rfl ?_
    refine z_icmp_ne C 35 dX7_shutting_26 (by decide) (fun h26 => ?_) (fun h26 => ?_)
    · skip
      refine z_aload_n C 1 dX7_shutting_35 rfl ?_
      refine z_bipush C (v := 12) dX7_shutting_36 rfl ?_
      refine z_callV1 C (c_X7_body l E _ (r := r + 1) (by omega) er1 12) ⟨rfl, rfl⟩ rfl rfl q_X7_297 ⟨by decide, by decide⟩ (Nat.le_of_ble_eq_true rfl) dX7_shutting_38 (fun v F9 hp => ?_)
      obtain ⟨rfl, e9⟩ := hp
      rw [e9]
      clear e9 F9
      have er2 := bdS_46 (b := 12) er1
      refine z_aload_n C 1 dX7_shutting_41 rfl ?_
      refine z_iload_n C 2 dX7_shutting_42 rfl ?_
      refine z_iload_n C 3 dX7_shutting_43 rfl ?_
      refine z_callV2 C (c_selling4 l E (bdS (bdS M 50) 12) hj (r := r + 2) (by omega) er2 (by simp only [bdS_1]; exact ek) _) ⟨rfl, rfl⟩ rfl rfl q_X7_303 ⟨by decide, by decide⟩ (Nat.le_of_ble_eq_true rfl) dX7_shutting_44 (fun v F9 hp => ?_)
      obtain ⟨rfl, e9⟩ := hp
      rw [e9]
      clear e9 F9
      have er3 := bdS_46 (b := 11) er2
      have er4 := bdS_46 (b := 51) er3
      have er5 := bdS_46 (b := 10) er4
      refine z_istore C dX7_shutting_47 (by decide) ?_
      refine z_iload C 0 dX7_shutting_49 rfl ?_
      refine z_aload_n C 2 dX7_shutting_51 rfl ?_
      refine z_iload_n C 3 dX7_shutting_52 rfl ?_
      refine z_iload_n C 4 dX7_shutting_53 rfl ?_
      refine z_aload_n C 2 dX7_shutting_54 rfl ?_
      refine mg_11 C dX7_shutting_55 ?_
      refine z_iload_n C 3 dX7_shutting_58 rfl ?_
      refine ml_11 C j rfl (by first | assumption | omega) dX7_shutting_59 ?_
      refine z_isub C dX7_shutting_60 ?_
      refine z_callV2 C (c_asking4 l E (bdS (bdS (bdS (bdS (bdS M 50) 12) 11) 51) 10) hj (r := r + 5) (by omega) er5 (by simp only [bdS_1]; exact ek) _) ⟨rfl, rfl⟩ rfl rfl q_X7_300 ⟨by decide, by decide⟩ (Nat.le_of_ble_eq_true rfl) dX7_shutting_61 (fun v F9 hp => ?_)
      obtain ⟨rfl, e9⟩ := hp
      rw [e9]
      clear e9 F9
      refine z_ixor C dX7_shutting_64 ?_
      refine z_top ((((x + nI j) - nI j) * 2) ^^^ (((x - M.1.2.1 j 1) + nI j) - nI j)) (by simp only [bdS_1]) ?_
      refine z_istore C dX7_shutting_65 (by decide) ?_
      refine z_iload_n C 1 dX7_shutting_67 rfl ?_
      refine z_iconst C (v := 4) dX7_shutting_68 rfl ?_
      refine z_icmp_eq C 78 dX7_shutting_69 (by decide) (fun h69 => ?_) (fun h69 => ?_)
      · skip
        refine z_iload C 0 dX7_shutting_78 rfl ?_
        refine z_ineg C dX7_shutting_80 ?_
        refine z_goto C 98 dX7_shutting_81 (by decide) ?_
        refine z_iret C0 dX7_shutting_98 ?_
        exact ⟨rfl, rfl⟩
      · exact absurd h69 (by decide)
    · exact absurd h26 (by decide)
  · exact absurd h9 (by decide)
set_option maxRecDepth 100000 in
set_option maxHeartbeats 4000000 in
theorem c_asking5 (l : Launch) (E : zE) (M : zM) {j : Nat} (hj : j < 6) {r : Nat} (hr : r ≤ 20) (er0 : M.2.1 46 = nI r) (ek : M.1.2.1 j 0 = 5) (x : Int32) : MM l E yX7_asking cX7_asking 5 (some .int) 2 [.ref (madr E.2.2.1 (0, 0, 0)), .int (nI j), .int (x)] (M) (fun v M2 => v = some (.int (x + nI j)) ∧ M2 = (bdS M 10)) := by
  refine MM.mk kq_X7 (Nat.le_of_ble_eq_true rfl) (fun K s C0 => ?_)
  have C := C0.c
  refine z_aload_n C 0 dX7_asking_0 rfl ?_
  refine mg_10 C dX7_asking_1 ?_
  refine z_iload_n C 1 dX7_asking_4 rfl ?_
  refine ml_10 C j rfl (by first | assumption | omega) dX7_asking_5 ?_
  refine z_top (5) (ek) ?_
  refine z_istore_n (i := 3) C dX7_asking_6 rfl (by decide) ?_
  refine z_iload_n C 0 dX7_asking_7 rfl ?_
  refine z_bipush C (v := 6) dX7_asking_8 rfl ?_
  refine z_icmp_ne C 19 dX7_asking_10 (by decide) (fun h10 => ?_) (fun h10 => ?_)
  · skip
    refine z_iload_n C 0 dX7_asking_19 rfl ?_
    refine z_iconst C (v := 4) dX7_asking_20 rfl ?_
    refine z_icmp_eq C 30 dX7_asking_21 (by decide) (fun h21 => ?_) (fun h21 => ?_)
    · exact absurd h21 (by decide)
    · skip
      refine z_iload_n C 0 dX7_asking_24 rfl ?_
      refine z_bipush C (v := 6) dX7_asking_25 rfl ?_
      refine z_icmp_ne C 36 dX7_asking_27 (by decide) (fun h27 => ?_) (fun h27 => ?_)
      · skip
        refine z_iload_n C 0 dX7_asking_36 rfl ?_
        refine z_iconst C (v := 1) dX7_asking_37 rfl ?_
        refine z_icmp_eq C 46 dX7_asking_38 (by decide) (fun h38 => ?_) (fun h38 => ?_)
        · exact absurd h38 (by decide)
        · skip
          refine z_iload_n C 0 dX7_asking_41 rfl ?_
          refine z_iconst C (v := 3) dX7_asking_42 rfl ?_
          refine z_icmp_ne C 52 dX7_asking_43 (by decide) (fun h43 => ?_) (fun h43 => ?_)
          · skip
            refine z_aload_n C 1 dX7_asking_52 rfl ?_
            refine z_bipush C (v := 10) dX7_asking_53 rfl ?_
            refine z_callV1 C (c_X7_body l E _ (r := r + 0) (by omega) er0 10) ⟨rfl, rfl⟩ rfl rfl q_X7_297 ⟨by decide, by decide⟩ (Nat.le_of_ble_eq_true rfl) dX7_asking_55 (fun v F9 hp => ?_)
            obtain ⟨rfl, e9⟩ := hp
            rw [e9]
            clear e9 F9
            have er1 := bdS_46 (b := 10) er0
            refine z_iload_n C 3 dX7_asking_58 rfl ?_
            refine z_iload_n C 2 dX7_asking_59 rfl ?_
            refine z_iadd C dX7_asking_60 ?_
            refine z_istore C dX7_asking_61 (by decide) ?_
            refine z_iload_n C 1 dX7_asking_63 rfl ?_
            refine z_iconst C (v := 1) dX7_asking_64 rfl ?_
            refine z_icmp_eq C 73 dX7_asking_65 (by decide) (fun h65 => ?_) (fun h65 => ?_)
            · exact absurd h65 (by decide)
            · skip
              refine z_iload_n C 1 dX7_asking_68 rfl ?_
              refine z_iconst C (v := 3) dX7_asking_69 rfl ?_
              refine z_icmp_ne C 84 dX7_asking_70 (by decide) (fun h70 => ?_) (fun h70 => ?_)
              · skip
                refine z_iload_n C 1 dX7_asking_84 rfl ?_
                refine z_iconst C (v := 4) dX7_asking_85 rfl ?_
                refine z_icmp_eq C 95 dX7_asking_86 (by decide) (fun h86 => ?_) (fun h86 => ?_)
                · exact absurd h86 (by decide)
                · skip
                  refine z_iload_n C 1 dX7_asking_89 rfl ?_
                  refine z_bipush C (v := 6) dX7_asking_90 rfl ?_
                  refine z_icmp_ne C 101 dX7_asking_92 (by decide) (fun h92 => ?_) (fun h92 => ?_)
                  · skip
                    refine z_iload_n C 1 dX7_asking_101 rfl ?_
                    refine z_bipush C (v := 6) dX7_asking_102 rfl ?_
                    refine z_icmp_ne C 114 dX7_asking_104 (by decide) (fun h104 => ?_) (fun h104 => ?_)
                    · skip
                      refine z_iload C 0 dX7_asking_114 rfl ?_
                      refine z_iret C0 dX7_asking_116 ?_
                      exact ⟨rfl, rfl⟩
                    · exact absurd h104 (by decide)
                  · exact absurd h92 (by decide)
              · exact absurd h70 (by decide)
          · exact absurd h43 (by decide)
      · exact absurd h27 (by decide)
  · exact absurd h10 (by decide)
set_option maxRecDepth 100000 in
set_option maxHeartbeats 4000000 in
theorem c_selling5 (l : Launch) (E : zE) (M : zM) {j : Nat} (hj : j < 6) {r : Nat} (hr : r ≤ 15) (er0 : M.2.1 46 = nI r) (ek : M.1.2.1 j 0 = 5) (x : Int32) : MM l E yX7_selling cX7_selling 7 (some .int) 3 [.ref (madr E.2.2.1 (0, 0, 0)), .int (nI j), .int (x)] (M) (fun v M2 => v = some (.int (((x + nI j) * 2) * 3)) ∧ M2 = (bdS (bdS (bdS M 30) 11) 10)) := by
  refine MM.mk kq_X7 (Nat.le_of_ble_eq_true rfl) (fun K s C0 => ?_)
  have C := C0.c
  refine z_aload_n C 0 dX7_selling_0 rfl ?_
  refine mg_10 C dX7_selling_1 ?_
  refine z_iload_n C 1 dX7_selling_4 rfl ?_
  refine ml_10 C j rfl (by first | assumption | omega) dX7_selling_5 ?_
  refine z_top (5) (ek) ?_
  refine z_istore_n (i := 3) C dX7_selling_6 rfl (by decide) ?_
  refine z_iload_n C 3 dX7_selling_7 rfl ?_
  refine z_istore C dX7_selling_8 (by decide) ?_
  refine z_iload_n C 1 dX7_selling_10 rfl ?_
  refine z_bipush C (v := 6) dX7_selling_11 rfl ?_
  refine z_icmp_ne C 32 dX7_selling_13 (by decide) (fun h13 => ?_) (fun h13 => ?_)
  · skip
    refine z_iload_n C 1 dX7_selling_32 rfl ?_
    refine z_iconst C (v := 3) dX7_selling_33 rfl ?_
    refine z_icmp_ne C 48 dX7_selling_34 (by decide) (fun h34 => ?_) (fun h34 => ?_)
    · skip
      refine z_iload_n C 1 dX7_selling_48 rfl ?_
      refine z_iconst C (v := 2) dX7_selling_49 rfl ?_
      refine z_icmp_eq C 58 dX7_selling_50 (by decide) (fun h50 => ?_) (fun h50 => ?_)
      · exact absurd h50 (by decide)
      · skip
        refine z_iload_n C 1 dX7_selling_53 rfl ?_
        refine z_iconst C (v := 5) dX7_selling_54 rfl ?_
        refine z_icmp_ne C 62 dX7_selling_55 (by decide) (fun h55 => ?_) (fun h55 => ?_)
        · exact absurd h55 (by decide)
        · skip
          refine z_iconst C (v := 1) dX7_selling_58 rfl ?_
          refine z_goto C 63 dX7_selling_59 (by decide) ?_
          refine z_istore C dX7_selling_63 (by decide) ?_
          refine z_iload C 0 dX7_selling_65 rfl ?_
          refine z_if_eq C 76 dX7_selling_67 (by decide) (fun h67 => ?_) (fun h67 => ?_)
          · exact absurd h67 (by decide)
          · skip
            refine z_aload_n C 3 dX7_selling_70 rfl ?_
            refine z_bipush C (v := 30) dX7_selling_71 rfl ?_
            refine z_callV1 C (c_X7_body l E _ (r := r + 0) (by omega) er0 30) ⟨rfl, rfl⟩ rfl rfl q_X7_297 ⟨by decide, by decide⟩ (Nat.le_of_ble_eq_true rfl) dX7_selling_73 (fun v F9 hp => ?_)
            obtain ⟨rfl, e9⟩ := hp
            rw [e9]
            clear e9 F9
            have er1 := bdS_46 (b := 30) er0
            refine z_aload_n C 3 dX7_selling_76 rfl ?_
            refine z_bipush C (v := 11) dX7_selling_77 rfl ?_
            refine z_callV1 C (c_X7_body l E _ (r := r + 1) (by omega) er1 11) ⟨rfl, rfl⟩ rfl rfl q_X7_297 ⟨by decide, by decide⟩ (Nat.le_of_ble_eq_true rfl) dX7_selling_79 (fun v F9 hp => ?_)
            obtain ⟨rfl, e9⟩ := hp
            rw [e9]
            clear e9 F9
            have er2 := bdS_46 (b := 11) er1
            refine z_aload_n C 3 dX7_selling_82 rfl ?_
            refine z_iload_n C 4 dX7_selling_83 rfl ?_
            refine z_iload C 1 dX7_selling_84 rfl ?_
            refine z_callV2 C (c_asking5 l E (bdS (bdS M 30) 11) hj (r := r + 2) (by omega) er2 (by simp only [bdS_1]; exact ek) _) ⟨rfl, rfl⟩ rfl rfl q_X7_300 ⟨by decide, by decide⟩ (Nat.le_of_ble_eq_true rfl) dX7_selling_86 (fun v F9 hp => ?_)
            obtain ⟨rfl, e9⟩ := hp
            rw [e9]
            clear e9 F9
            refine z_iconst C (v := 2) dX7_selling_89 rfl ?_
            refine z_imul C dX7_selling_90 ?_
            refine z_istore C dX7_selling_91 (by decide) ?_
            refine z_iload C 1 dX7_selling_93 rfl ?_
            refine z_if_eq C 105 dX7_selling_95 (by decide) (fun h95 => ?_) (fun h95 => ?_)
            · exact absurd h95 (by decide)
            · skip
              refine z_iload C 0 dX7_selling_98 rfl ?_
              refine z_iconst C (v := 3) dX7_selling_100 rfl ?_
              refine z_imul C dX7_selling_101 ?_
              refine z_goto C 107 dX7_selling_102 (by decide) ?_
              refine z_iret C0 dX7_selling_107 ?_
              exact ⟨rfl, rfl⟩
    · exact absurd h34 (by decide)
  · exact absurd h13 (by decide)
set_option maxRecDepth 100000 in
set_option maxHeartbeats 4000000 in
theorem c_shutting5 (l : Launch) (E : zE) (M : zM) {j : Nat} (hj : j < 6) {r : Nat} (hr : r = 0) (er0 : M.2.1 46 = nI r) (ek : M.1.2.1 j 0 = 5) (x : Int32) : MM l E yX7_shutting cX7_shutting 5 (some .int) 4 [.ref (madr E.2.2.1 (0, 0, 0)), .int (nI j), .int (x)] (M) (fun v M2 => v = some (.int (((((x + nI j) * 2) * 3) ^^^ ((x - M.1.2.1 j 1) + nI j)) ^^^ 5)) ∧ M2 = (bdS (bdS (bdS (bdS (bdS (bdS M 60) 12) 30) 11) 10) 10)) := by
  refine MM.mk kq_X7 (Nat.le_of_ble_eq_true rfl) (fun K s C0 => ?_)
  have C := C0.c
  refine z_aload_n C 0 dX7_shutting_0 rfl ?_
  refine mg_10 C dX7_shutting_1 ?_
  refine z_iload_n C 1 dX7_shutting_4 rfl ?_
  refine ml_10 C j rfl (by first | assumption | omega) dX7_shutting_5 ?_
  refine z_top (5) (ek) ?_
  refine z_istore_n (i := 3) C dX7_shutting_6 rfl (by decide) ?_
  refine z_iload_n C 0 dX7_shutting_7 rfl ?_
  refine z_iconst C (v := 4) dX7_shutting_8 rfl ?_
  refine z_icmp_eq C 18 dX7_shutting_9 (by decide) (fun h9 => ?_) (fun h9 => ?_)
  · exact absurd h9 (by decide)
  · skip
    refine z_iload_n C 0 dX7_shutting_12 rfl ?_
    refine z_bipush C (v := 6) dX7_shutting_13 rfl ?_
    refine z_icmp_ne C 24 dX7_shutting_15 (by decide) (fun h15 => ?_) (fun h15 => ?_)
    · skip
      refine z_iload_n C 0 dX7_shutting_24 rfl ?_
      refine z_iconst C (v := 5) dX7_shutting_25 rfl ?_
      refine z_icmp_ne C 35 dX7_shutting_26 (by decide) (fun h26 => ?_) (fun h26 => ?_)
      · exact absurd h26 (by decide)
      · skip
        refine z_aload_n C 1 dX7_shutting_29 rfl ?_
        refine z_bipush C (v := 60) dX7_shutting_30 rfl ?_
        refine z_callV1 C (c_X7_body l E _ (r := r + 0) (by omega) er0 60) ⟨rfl, rfl⟩ rfl rfl q_X7_297 ⟨by decide, by decide⟩ (Nat.le_of_ble_eq_true rfl) dX7_shutting_32 (fun v F9 hp => ?_)
        obtain ⟨rfl, e9⟩ := hp
        rw [e9]
        clear e9 F9
        have er1 := bdS_46 (b := 60) er0
        refine z_aload_n C 1 dX7_shutting_35 rfl ?_
        refine z_bipush C (v := 12) dX7_shutting_36 rfl ?_
        refine z_callV1 C (c_X7_body l E _ (r := r + 1) (by omega) er1 12) ⟨rfl, rfl⟩ rfl rfl q_X7_297 ⟨by decide, by decide⟩ (Nat.le_of_ble_eq_true rfl) dX7_shutting_38 (fun v F9 hp => ?_)
        obtain ⟨rfl, e9⟩ := hp
        rw [e9]
        clear e9 F9
        have er2 := bdS_46 (b := 12) er1
        refine z_aload_n C 1 dX7_shutting_41 rfl ?_
        refine z_iload_n C 2 dX7_shutting_42 rfl ?_
        refine z_iload_n C 3 dX7_shutting_43 rfl ?_
        refine z_callV2 C (c_selling5 l E (bdS (bdS M 60) 12) hj (r := r + 2) (by omega) er2 (by simp only [bdS_1]; exact ek) _) ⟨rfl, rfl⟩ rfl rfl q_X7_303 ⟨by decide, by decide⟩ (Nat.le_of_ble_eq_true rfl) dX7_shutting_44 (fun v F9 hp => ?_)
        obtain ⟨rfl, e9⟩ := hp
        rw [e9]
        clear e9 F9
        have er3 := bdS_46 (b := 30) er2
        have er4 := bdS_46 (b := 11) er3
        have er5 := bdS_46 (b := 10) er4
        refine z_istore C dX7_shutting_47 (by decide) ?_
        refine z_iload C 0 dX7_shutting_49 rfl ?_
        refine z_aload_n C 2 dX7_shutting_51 rfl ?_
        refine z_iload_n C 3 dX7_shutting_52 rfl ?_
        refine z_iload_n C 4 dX7_shutting_53 rfl ?_
        refine z_aload_n C 2 dX7_shutting_54 rfl ?_
        refine mg_11 C dX7_shutting_55 ?_
        refine z_iload_n C 3 dX7_shutting_58 rfl ?_
        refine ml_11 C j rfl (by first | assumption | omega) dX7_shutting_59 ?_
        refine z_isub C dX7_shutting_60 ?_
        refine z_callV2 C (c_asking5 l E (bdS (bdS (bdS (bdS (bdS M 60) 12) 30) 11) 10) hj (r := r + 5) (by omega) er5 (by simp only [bdS_1]; exact ek) _) ⟨rfl, rfl⟩ rfl rfl q_X7_300 ⟨by decide, by decide⟩ (Nat.le_of_ble_eq_true rfl) dX7_shutting_61 (fun v F9 hp => ?_)
        obtain ⟨rfl, e9⟩ := hp
        rw [e9]
        clear e9 F9
        refine z_ixor C dX7_shutting_64 ?_
        refine z_top ((((x + nI j) * 2) * 3) ^^^ ((x - M.1.2.1 j 1) + nI j)) (by simp only [bdS_1]) ?_
        refine z_istore C dX7_shutting_65 (by decide) ?_
        refine z_iload_n C 1 dX7_shutting_67 rfl ?_
        refine z_iconst C (v := 4) dX7_shutting_68 rfl ?_
        refine z_icmp_eq C 78 dX7_shutting_69 (by decide) (fun h69 => ?_) (fun h69 => ?_)
        · exact absurd h69 (by decide)
        · skip
          refine z_iload_n C 1 dX7_shutting_72 rfl ?_
          refine z_bipush C (v := 6) dX7_shutting_73 rfl ?_
          refine z_icmp_ne C 84 dX7_shutting_75 (by decide) (fun h75 => ?_) (fun h75 => ?_)
          · skip
            refine z_iload_n C 1 dX7_shutting_84 rfl ?_
            refine z_iconst C (v := 5) dX7_shutting_85 rfl ?_
            refine z_icmp_ne C 96 dX7_shutting_86 (by decide) (fun h86 => ?_) (fun h86 => ?_)
            · exact absurd h86 (by decide)
            · skip
              refine z_iload C 0 dX7_shutting_89 rfl ?_
              refine z_iconst C (v := 5) dX7_shutting_91 rfl ?_
              refine z_ixor C dX7_shutting_92 ?_
              refine z_goto C 98 dX7_shutting_93 (by decide) ?_
              refine z_iret C0 dX7_shutting_98 ?_
              exact ⟨rfl, rfl⟩
          · exact absurd h75 (by decide)
    · exact absurd h15 (by decide)
set_option maxRecDepth 100000 in
set_option maxHeartbeats 4000000 in
theorem c_asking6 (l : Launch) (E : zE) (M : zM) {j : Nat} (hj : j < 6) {r : Nat} (hr : r ≤ 20) (er0 : M.2.1 46 = nI r) (ek : M.1.2.1 j 0 = 6) (x : Int32) : MM l E yX7_asking cX7_asking 5 (some .int) 2 [.ref (madr E.2.2.1 (0, 0, 0)), .int (nI j), .int (x)] (M) (fun v M2 => v = some (.int (((x + nI j) - nI j) * 2)) ∧ M2 = (bdS (bdS (bdS M 70) 51) 10)) := by
  refine MM.mk kq_X7 (Nat.le_of_ble_eq_true rfl) (fun K s C0 => ?_)
  have C := C0.c
  refine z_aload_n C 0 dX7_asking_0 rfl ?_
  refine mg_10 C dX7_asking_1 ?_
  refine z_iload_n C 1 dX7_asking_4 rfl ?_
  refine ml_10 C j rfl (by first | assumption | omega) dX7_asking_5 ?_
  refine z_top (6) (ek) ?_
  refine z_istore_n (i := 3) C dX7_asking_6 rfl (by decide) ?_
  refine z_iload_n C 0 dX7_asking_7 rfl ?_
  refine z_bipush C (v := 6) dX7_asking_8 rfl ?_
  refine z_icmp_ne C 19 dX7_asking_10 (by decide) (fun h10 => ?_) (fun h10 => ?_)
  · exact absurd h10 (by decide)
  · skip
    refine z_aload_n C 1 dX7_asking_13 rfl ?_
    refine z_bipush C (v := 70) dX7_asking_14 rfl ?_
    refine z_callV1 C (c_X7_body l E _ (r := r + 0) (by omega) er0 70) ⟨rfl, rfl⟩ rfl rfl q_X7_297 ⟨by decide, by decide⟩ (Nat.le_of_ble_eq_true rfl) dX7_asking_16 (fun v F9 hp => ?_)
    obtain ⟨rfl, e9⟩ := hp
    rw [e9]
    clear e9 F9
    have er1 := bdS_46 (b := 70) er0
    refine z_iload_n C 0 dX7_asking_19 rfl ?_
    refine z_iconst C (v := 4) dX7_asking_20 rfl ?_
    refine z_icmp_eq C 30 dX7_asking_21 (by decide) (fun h21 => ?_) (fun h21 => ?_)
    · exact absurd h21 (by decide)
    · skip
      refine z_iload_n C 0 dX7_asking_24 rfl ?_
      refine z_bipush C (v := 6) dX7_asking_25 rfl ?_
      refine z_icmp_ne C 36 dX7_asking_27 (by decide) (fun h27 => ?_) (fun h27 => ?_)
      · exact absurd h27 (by decide)
      · skip
        refine z_aload_n C 1 dX7_asking_30 rfl ?_
        refine z_bipush C (v := 51) dX7_asking_31 rfl ?_
        refine z_callV1 C (c_X7_body l E _ (r := r + 1) (by omega) er1 51) ⟨rfl, rfl⟩ rfl rfl q_X7_297 ⟨by decide, by decide⟩ (Nat.le_of_ble_eq_true rfl) dX7_asking_33 (fun v F9 hp => ?_)
        obtain ⟨rfl, e9⟩ := hp
        rw [e9]
        clear e9 F9
        have er2 := bdS_46 (b := 51) er1
        refine z_iload_n C 0 dX7_asking_36 rfl ?_
        refine z_iconst C (v := 1) dX7_asking_37 rfl ?_
        refine z_icmp_eq C 46 dX7_asking_38 (by decide) (fun h38 => ?_) (fun h38 => ?_)
        · exact absurd h38 (by decide)
        · skip
          refine z_iload_n C 0 dX7_asking_41 rfl ?_
          refine z_iconst C (v := 3) dX7_asking_42 rfl ?_
          refine z_icmp_ne C 52 dX7_asking_43 (by decide) (fun h43 => ?_) (fun h43 => ?_)
          · skip
            refine z_aload_n C 1 dX7_asking_52 rfl ?_
            refine z_bipush C (v := 10) dX7_asking_53 rfl ?_
            refine z_callV1 C (c_X7_body l E _ (r := r + 2) (by omega) er2 10) ⟨rfl, rfl⟩ rfl rfl q_X7_297 ⟨by decide, by decide⟩ (Nat.le_of_ble_eq_true rfl) dX7_asking_55 (fun v F9 hp => ?_)
            obtain ⟨rfl, e9⟩ := hp
            rw [e9]
            clear e9 F9
            have er3 := bdS_46 (b := 10) er2
            refine z_iload_n C 3 dX7_asking_58 rfl ?_
            refine z_iload_n C 2 dX7_asking_59 rfl ?_
            refine z_iadd C dX7_asking_60 ?_
            refine z_istore C dX7_asking_61 (by decide) ?_
            refine z_iload_n C 1 dX7_asking_63 rfl ?_
            refine z_iconst C (v := 1) dX7_asking_64 rfl ?_
            refine z_icmp_eq C 73 dX7_asking_65 (by decide) (fun h65 => ?_) (fun h65 => ?_)
            · exact absurd h65 (by decide)
            · skip
              refine z_iload_n C 1 dX7_asking_68 rfl ?_
              refine z_iconst C (v := 3) dX7_asking_69 rfl ?_
              refine z_icmp_ne C 84 dX7_asking_70 (by decide) (fun h70 => ?_) (fun h70 => ?_)
              · skip
                refine z_iload_n C 1 dX7_asking_84 rfl ?_
                refine z_iconst C (v := 4) dX7_asking_85 rfl ?_
                refine z_icmp_eq C 95 dX7_asking_86 (by decide) (fun h86 => ?_) (fun h86 => ?_)
                · exact absurd h86 (by decide)
                · skip
                  refine z_iload_n C 1 dX7_asking_89 rfl ?_
                  refine z_bipush C (v := 6) dX7_asking_90 rfl ?_
                  refine z_icmp_ne C 101 dX7_asking_92 (by decide) (fun h92 => ?_) (fun h92 => ?_)
                  · exact absurd h92 (by decide)
                  · skip
                    refine z_iload C 0 dX7_asking_95 rfl ?_
                    refine z_iload_n C 3 dX7_asking_97 rfl ?_
                    refine z_isub C dX7_asking_98 ?_
                    refine z_istore C dX7_asking_99 (by decide) ?_
                    refine z_iload_n C 1 dX7_asking_101 rfl ?_
                    refine z_bipush C (v := 6) dX7_asking_102 rfl ?_
                    refine z_icmp_ne C 114 dX7_asking_104 (by decide) (fun h104 => ?_) (fun h104 => ?_)
                    · exact absurd h104 (by decide)
                    · skip
                      refine z_iload C 0 dX7_asking_107 rfl ?_
                      refine z_iconst C (v := 2) dX7_asking_109 rfl ?_
                      refine z_imul C dX7_asking_110 ?_
                      refine z_goto C 116 dX7_asking_111 (by decide) ?_
                      refine z_iret C0 dX7_asking_116 ?_
                      exact ⟨rfl, rfl⟩
              · exact absurd h70 (by decide)
          · exact absurd h43 (by decide)
set_option maxRecDepth 100000 in
set_option maxHeartbeats 4000000 in
theorem c_selling6 (l : Launch) (E : zE) (M : zM) {j : Nat} (hj : j < 6) {r : Nat} (hr : r ≤ 15) (er0 : M.2.1 46 = nI r) (ek : M.1.2.1 j 0 = 6) (x : Int32) : MM l E yX7_selling cX7_selling 7 (some .int) 3 [.ref (madr E.2.2.1 (0, 0, 0)), .int (nI j), .int (x)] (M) (fun v M2 => v = some (.int (((((x - M.1.2.1 j 1) + nI j) - nI j) * 2) * 2)) ∧ M2 = (bdS (bdS (bdS (bdS (bdS M 71) 11) 70) 51) 10)) := by
  refine MM.mk kq_X7 (Nat.le_of_ble_eq_true rfl) (fun K s C0 => ?_)
  have C := C0.c
  refine z_aload_n C 0 dX7_selling_0 rfl ?_
  refine mg_10 C dX7_selling_1 ?_
  refine z_iload_n C 1 dX7_selling_4 rfl ?_
  refine ml_10 C j rfl (by first | assumption | omega) dX7_selling_5 ?_
  refine z_top (6) (ek) ?_
  refine z_istore_n (i := 3) C dX7_selling_6 rfl (by decide) ?_
  refine z_iload_n C 3 dX7_selling_7 rfl ?_
  refine z_istore C dX7_selling_8 (by decide) ?_
  refine z_iload_n C 1 dX7_selling_10 rfl ?_
  refine z_bipush C (v := 6) dX7_selling_11 rfl ?_
  refine z_icmp_ne C 32 dX7_selling_13 (by decide) (fun h13 => ?_) (fun h13 => ?_)
  · exact absurd h13 (by decide)
  · skip
    refine z_aload_n C 2 dX7_selling_16 rfl ?_
    refine z_bipush C (v := 71) dX7_selling_17 rfl ?_
    refine z_callV1 C (c_X7_body l E _ (r := r + 0) (by omega) er0 71) ⟨rfl, rfl⟩ rfl rfl q_X7_297 ⟨by decide, by decide⟩ (Nat.le_of_ble_eq_true rfl) dX7_selling_19 (fun v F9 hp => ?_)
    obtain ⟨rfl, e9⟩ := hp
    rw [e9]
    clear e9 F9
    have er1 := bdS_46 (b := 71) er0
    refine z_iload_n C 4 dX7_selling_22 rfl ?_
    refine z_aload_n C 2 dX7_selling_23 rfl ?_
    refine mg_11 C dX7_selling_24 ?_
    refine z_iload_n C 3 dX7_selling_27 rfl ?_
    refine ml_11 C j rfl (by first | assumption | omega) dX7_selling_28 ?_
    refine z_top (M.1.2.1 j 1) (by simp only [bdS_1]) ?_
    refine z_isub C dX7_selling_29 ?_
    refine z_istore C dX7_selling_30 (by decide) ?_
    refine z_iload_n C 1 dX7_selling_32 rfl ?_
    refine z_iconst C (v := 3) dX7_selling_33 rfl ?_
    refine z_icmp_ne C 48 dX7_selling_34 (by decide) (fun h34 => ?_) (fun h34 => ?_)
    · skip
      refine z_iload_n C 1 dX7_selling_48 rfl ?_
      refine z_iconst C (v := 2) dX7_selling_49 rfl ?_
      refine z_icmp_eq C 58 dX7_selling_50 (by decide) (fun h50 => ?_) (fun h50 => ?_)
      · exact absurd h50 (by decide)
      · skip
        refine z_iload_n C 1 dX7_selling_53 rfl ?_
        refine z_iconst C (v := 5) dX7_selling_54 rfl ?_
        refine z_icmp_ne C 62 dX7_selling_55 (by decide) (fun h55 => ?_) (fun h55 => ?_)
        · skip
          refine z_iconst C (v := 0) dX7_selling_62 rfl ?_
          refine z_istore C dX7_selling_63 (by decide) ?_
          refine z_iload C 0 dX7_selling_65 rfl ?_
          refine z_if_eq C 76 dX7_selling_67 (by decide) (fun h67 => ?_) (fun h67 => ?_)
          · skip
            refine z_aload_n C 3 dX7_selling_76 rfl ?_
            refine z_bipush C (v := 11) dX7_selling_77 rfl ?_
            refine z_callV1 C (c_X7_body l E _ (r := r + 1) (by omega) er1 11) ⟨rfl, rfl⟩ rfl rfl q_X7_297 ⟨by decide, by decide⟩ (Nat.le_of_ble_eq_true rfl) dX7_selling_79 (fun v F9 hp => ?_)
            obtain ⟨rfl, e9⟩ := hp
            rw [e9]
            clear e9 F9
            have er2 := bdS_46 (b := 11) er1
            refine z_aload_n C 3 dX7_selling_82 rfl ?_
            refine z_iload_n C 4 dX7_selling_83 rfl ?_
            refine z_iload C 1 dX7_selling_84 rfl ?_
            refine z_callV2 C (c_asking6 l E (bdS (bdS M 71) 11) hj (r := r + 2) (by omega) er2 (by simp only [bdS_1]; exact ek) _) ⟨rfl, rfl⟩ rfl rfl q_X7_300 ⟨by decide, by decide⟩ (Nat.le_of_ble_eq_true rfl) dX7_selling_86 (fun v F9 hp => ?_)
            obtain ⟨rfl, e9⟩ := hp
            rw [e9]
            clear e9 F9
            refine z_iconst C (v := 2) dX7_selling_89 rfl ?_
            refine z_imul C dX7_selling_90 ?_
            refine z_istore C dX7_selling_91 (by decide) ?_
            refine z_iload C 1 dX7_selling_93 rfl ?_
            refine z_if_eq C 105 dX7_selling_95 (by decide) (fun h95 => ?_) (fun h95 => ?_)
            · skip
              refine z_iload C 0 dX7_selling_105 rfl ?_
              refine z_iret C0 dX7_selling_107 ?_
              exact ⟨rfl, rfl⟩
            · exact absurd h95 (by decide)
          · exact absurd h67 (by decide)
        · exact absurd h55 (by decide)
    · exact absurd h34 (by decide)
set_option maxRecDepth 100000 in
set_option maxHeartbeats 4000000 in
theorem c_shutting6 (l : Launch) (E : zE) (M : zM) {j : Nat} (hj : j < 6) {r : Nat} (hr : r = 0) (er0 : M.2.1 46 = nI r) (ek : M.1.2.1 j 0 = 6) (x : Int32) : MM l E yX7_shutting cX7_shutting 5 (some .int) 4 [.ref (madr E.2.2.1 (0, 0, 0)), .int (nI j), .int (x)] (M) (fun v M2 => v = some (.int (-((((((x - M.1.2.1 j 1) + nI j) - nI j) * 2) * 2) ^^^ ((((x - M.1.2.1 j 1) + nI j) - nI j) * 2)))) ∧ M2 = (bdS (bdS (bdS (bdS (bdS (bdS (bdS (bdS (bdS (bdS M 50) 12) 71) 11) 70) 51) 10) 70) 51) 10)) := by
  refine MM.mk kq_X7 (Nat.le_of_ble_eq_true rfl) (fun K s C0 => ?_)
  have C := C0.c
  refine z_aload_n C 0 dX7_shutting_0 rfl ?_
  refine mg_10 C dX7_shutting_1 ?_
  refine z_iload_n C 1 dX7_shutting_4 rfl ?_
  refine ml_10 C j rfl (by first | assumption | omega) dX7_shutting_5 ?_
  refine z_top (6) (ek) ?_
  refine z_istore_n (i := 3) C dX7_shutting_6 rfl (by decide) ?_
  refine z_iload_n C 0 dX7_shutting_7 rfl ?_
  refine z_iconst C (v := 4) dX7_shutting_8 rfl ?_
  refine z_icmp_eq C 18 dX7_shutting_9 (by decide) (fun h9 => ?_) (fun h9 => ?_)
  · exact absurd h9 (by decide)
  · skip
    refine z_iload_n C 0 dX7_shutting_12 rfl ?_
    refine z_bipush C (v := 6) dX7_shutting_13 rfl ?_
    refine z_icmp_ne C 24 dX7_shutting_15 (by decide) (fun h15 => ?_) (fun h15 => ?_)
    · exact absurd h15 (by decide)
    · skip
      refine z_aload_n C 1 dX7_shutting_18 rfl ?_
      refine z_bipush C (v := 50) dX7_shutting_19 rfl ?_
      refine z_callV1 C (c_X7_body l E _ (r := r + 0) (by omega) er0 50) ⟨rfl, rfl⟩ rfl rfl q_X7_297 ⟨by decide, by decide⟩ (Nat.le_of_ble_eq_true rfl) dX7_shutting_21 (fun v F9 hp => ?_)
      obtain ⟨rfl, e9⟩ := hp
      rw [e9]
      clear e9 F9
      have er1 := bdS_46 (b := 50) er0
      refine z_iload_n C 0 dX7_shutting_24 rfl ?_
      refine z_iconst C (v := 5) dX7_shutting_25 rfl ?_
      refine z_icmp_ne C 35 dX7_shutting_26 (by decide) (fun h26 => ?_) (fun h26 => ?_)
      · skip
        refine z_aload_n C 1 dX7_shutting_35 rfl ?_
        refine z_bipush C (v := 12) dX7_shutting_36 rfl ?_
        refine z_callV1 C (c_X7_body l E _ (r := r + 1) (by omega) er1 12) ⟨rfl, rfl⟩ rfl rfl q_X7_297 ⟨by decide, by decide⟩ (Nat.le_of_ble_eq_true rfl) dX7_shutting_38 (fun v F9 hp => ?_)
        obtain ⟨rfl, e9⟩ := hp
        rw [e9]
        clear e9 F9
        have er2 := bdS_46 (b := 12) er1
        refine z_aload_n C 1 dX7_shutting_41 rfl ?_
        refine z_iload_n C 2 dX7_shutting_42 rfl ?_
        refine z_iload_n C 3 dX7_shutting_43 rfl ?_
        refine z_callV2 C (c_selling6 l E (bdS (bdS M 50) 12) hj (r := r + 2) (by omega) er2 (by simp only [bdS_1]; exact ek) _) ⟨rfl, rfl⟩ rfl rfl q_X7_303 ⟨by decide, by decide⟩ (Nat.le_of_ble_eq_true rfl) dX7_shutting_44 (fun v F9 hp => ?_)
        obtain ⟨rfl, e9⟩ := hp
        rw [e9]
        clear e9 F9
        have er3 := bdS_46 (b := 71) er2
        have er4 := bdS_46 (b := 11) er3
        have er5 := bdS_46 (b := 70) er4
        have er6 := bdS_46 (b := 51) er5
        have er7 := bdS_46 (b := 10) er6
        refine z_istore C dX7_shutting_47 (by decide) ?_
        refine z_iload C 0 dX7_shutting_49 rfl ?_
        refine z_aload_n C 2 dX7_shutting_51 rfl ?_
        refine z_iload_n C 3 dX7_shutting_52 rfl ?_
        refine z_iload_n C 4 dX7_shutting_53 rfl ?_
        refine z_aload_n C 2 dX7_shutting_54 rfl ?_
        refine mg_11 C dX7_shutting_55 ?_
        refine z_iload_n C 3 dX7_shutting_58 rfl ?_
        refine ml_11 C j rfl (by first | assumption | omega) dX7_shutting_59 ?_
        refine z_isub C dX7_shutting_60 ?_
        refine z_callV2 C (c_asking6 l E (bdS (bdS (bdS (bdS (bdS (bdS (bdS M 50) 12) 71) 11) 70) 51) 10) hj (r := r + 7) (by omega) er7 (by simp only [bdS_1]; exact ek) _) ⟨rfl, rfl⟩ rfl rfl q_X7_300 ⟨by decide, by decide⟩ (Nat.le_of_ble_eq_true rfl) dX7_shutting_61 (fun v F9 hp => ?_)
        obtain ⟨rfl, e9⟩ := hp
        rw [e9]
        clear e9 F9
        refine z_ixor C dX7_shutting_64 ?_
        refine z_top ((((((x - M.1.2.1 j 1) + nI j) - nI j) * 2) * 2) ^^^ ((((x - M.1.2.1 j 1) + nI j) - nI j) * 2)) (by simp only [bdS_1]) ?_
        refine z_istore C dX7_shutting_65 (by decide) ?_
        refine z_iload_n C 1 dX7_shutting_67 rfl ?_
        refine z_iconst C (v := 4) dX7_shutting_68 rfl ?_
        refine z_icmp_eq C 78 dX7_shutting_69 (by decide) (fun h69 => ?_) (fun h69 => ?_)
        · exact absurd h69 (by decide)
        · skip
          refine z_iload_n C 1 dX7_shutting_72 rfl ?_
          refine z_bipush C (v := 6) dX7_shutting_73 rfl ?_
          refine z_icmp_ne C 84 dX7_shutting_75 (by decide) (fun h75 => ?_) (fun h75 => ?_)
          · exact absurd h75 (by decide)
          · skip
            refine z_iload C 0 dX7_shutting_78 rfl ?_
            refine z_ineg C dX7_shutting_80 ?_
            refine z_goto C 98 dX7_shutting_81 (by decide) ?_
            refine z_iret C0 dX7_shutting_98 ?_
            exact ⟨rfl, rfl⟩
      · exact absurd h26 (by decide)
set_option maxRecDepth 100000 in
set_option maxHeartbeats 4000000 in
theorem c_askingA (l : Launch) (E : zE) (M : zM) {j : Nat} (hj : j < 6) (er0 : M.2.1 46 = nI 0) {k0 : Nat} (hk0 : k0 < 7) (ek : M.1.2.1 j 0 = nI k0) (x : Int32) : MM l E yX7_asking cX7_asking 5 (some .int) 2 [.ref (madr E.2.2.1 (0, 0, 0)), .int (nI j), .int x] M (fun v M2 => v = some (.int (rb k0 (nI j) (M.1.2.1 j 1) 8 k0 0 x).2) ∧ M2 = bdL M (rb k0 (nI j) (M.1.2.1 j 1) 8 k0 0 x).1) := by
  have hk : k0 = 0 ∨ k0 = 1 ∨ k0 = 2 ∨ k0 = 3 ∨ k0 = 4 ∨ k0 = 5 ∨ k0 = 6 := by omega
  rcases hk with rfl | rfl | rfl | rfl | rfl | rfl | rfl
  · have e : rb 0 (nI j) (M.1.2.1 j 1) 8 0 0 x = ([10], (x + nI j)) := rfl
    rw [e]
    exact c_asking0 l E M hj (r := 0) (by omega) er0 ek x
  · have e : rb 1 (nI j) (M.1.2.1 j 1) 8 1 0 x = ([20, 10], ((x + nI j) + M.1.2.1 j 1)) := rfl
    rw [e]
    exact c_asking1 l E M hj (r := 0) (by omega) er0 ek x
  · have e : rb 2 (nI j) (M.1.2.1 j 1) 8 2 0 x = ([10], (x + nI j)) := rfl
    rw [e]
    exact c_asking2 l E M hj (r := 0) (by omega) er0 ek x
  · have e : rb 3 (nI j) (M.1.2.1 j 1) 8 3 0 x = ([20, 10], ((x + nI j) + M.1.2.1 j 1)) := rfl
    rw [e]
    exact c_asking3 l E M hj (r := 0) (by omega) er0 ek x
  · have e : rb 4 (nI j) (M.1.2.1 j 1) 8 4 0 x = ([51, 10], ((x + nI j) - nI j)) := rfl
    rw [e]
    exact c_asking4 l E M hj (r := 0) (by omega) er0 ek x
  · have e : rb 5 (nI j) (M.1.2.1 j 1) 8 5 0 x = ([10], (x + nI j)) := rfl
    rw [e]
    exact c_asking5 l E M hj (r := 0) (by omega) er0 ek x
  · have e : rb 6 (nI j) (M.1.2.1 j 1) 8 6 0 x = ([70, 51, 10], (((x + nI j) - nI j) * 2)) := rfl
    rw [e]
    exact c_asking6 l E M hj (r := 0) (by omega) er0 ek x
set_option maxRecDepth 100000 in
set_option maxHeartbeats 4000000 in
theorem c_sellingA (l : Launch) (E : zE) (M : zM) {j : Nat} (hj : j < 6) (er0 : M.2.1 46 = nI 0) {k0 : Nat} (hk0 : k0 < 7) (ek : M.1.2.1 j 0 = nI k0) (x : Int32) : MM l E yX7_selling cX7_selling 7 (some .int) 3 [.ref (madr E.2.2.1 (0, 0, 0)), .int (nI j), .int x] M (fun v M2 => v = some (.int (rb k0 (nI j) (M.1.2.1 j 1) 8 k0 1 x).2) ∧ M2 = bdL M (rb k0 (nI j) (M.1.2.1 j 1) 8 k0 1 x).1) := by
  have hk : k0 = 0 ∨ k0 = 1 ∨ k0 = 2 ∨ k0 = 3 ∨ k0 = 4 ∨ k0 = 5 ∨ k0 = 6 := by omega
  rcases hk with rfl | rfl | rfl | rfl | rfl | rfl | rfl
  · have e : rb 0 (nI j) (M.1.2.1 j 1) 8 0 1 x = ([11, 10], ((x + nI j) * 2)) := rfl
    rw [e]
    exact c_selling0 l E M hj (r := 0) (by omega) er0 ek x
  · have e : rb 1 (nI j) (M.1.2.1 j 1) 8 1 1 x = ([11, 20, 10], (((x + nI j) + M.1.2.1 j 1) * 2)) := rfl
    rw [e]
    exact c_selling1 l E M hj (r := 0) (by omega) er0 ek x
  · have e : rb 2 (nI j) (M.1.2.1 j 1) 8 2 1 x = ([30, 11, 10], (((x + nI j) * 2) * 3)) := rfl
    rw [e]
    exact c_selling2 l E M hj (r := 0) (by omega) er0 ek x
  · have e : rb 3 (nI j) (M.1.2.1 j 1) 8 3 1 x = ([40, 11, 20, 10], ((((x + 1) + nI j) + M.1.2.1 j 1) * 2)) := rfl
    rw [e]
    exact c_selling3 l E M hj (r := 0) (by omega) er0 ek x
  · have e : rb 4 (nI j) (M.1.2.1 j 1) 8 4 1 x = ([11, 51, 10], (((x + nI j) - nI j) * 2)) := rfl
    rw [e]
    exact c_selling4 l E M hj (r := 0) (by omega) er0 ek x
  · have e : rb 5 (nI j) (M.1.2.1 j 1) 8 5 1 x = ([30, 11, 10], (((x + nI j) * 2) * 3)) := rfl
    rw [e]
    exact c_selling5 l E M hj (r := 0) (by omega) er0 ek x
  · have e : rb 6 (nI j) (M.1.2.1 j 1) 8 6 1 x = ([71, 11, 70, 51, 10], (((((x - M.1.2.1 j 1) + nI j) - nI j) * 2) * 2)) := rfl
    rw [e]
    exact c_selling6 l E M hj (r := 0) (by omega) er0 ek x
set_option maxRecDepth 100000 in
set_option maxHeartbeats 4000000 in
theorem c_shuttingA (l : Launch) (E : zE) (M : zM) {j : Nat} (hj : j < 6) (er0 : M.2.1 46 = nI 0) {k0 : Nat} (hk0 : k0 < 7) (ek : M.1.2.1 j 0 = nI k0) (x : Int32) : MM l E yX7_shutting cX7_shutting 5 (some .int) 4 [.ref (madr E.2.2.1 (0, 0, 0)), .int (nI j), .int x] M (fun v M2 => v = some (.int (rb k0 (nI j) (M.1.2.1 j 1) 8 k0 2 x).2) ∧ M2 = bdL M (rb k0 (nI j) (M.1.2.1 j 1) 8 k0 2 x).1) := by
  have hk : k0 = 0 ∨ k0 = 1 ∨ k0 = 2 ∨ k0 = 3 ∨ k0 = 4 ∨ k0 = 5 ∨ k0 = 6 := by omega
  rcases hk with rfl | rfl | rfl | rfl | rfl | rfl | rfl
  · have e : rb 0 (nI j) (M.1.2.1 j 1) 8 0 2 x = ([12, 11, 10, 10], (((x + nI j) * 2) ^^^ ((x - M.1.2.1 j 1) + nI j))) := rfl
    rw [e]
    exact c_shutting0 l E M hj (r := 0) rfl er0 ek x
  · have e : rb 1 (nI j) (M.1.2.1 j 1) 8 1 2 x = ([12, 11, 20, 10, 20, 10], ((((x + nI j) + M.1.2.1 j 1) * 2) ^^^ (((x - M.1.2.1 j 1) + nI j) + M.1.2.1 j 1))) := rfl
    rw [e]
    exact c_shutting1 l E M hj (r := 0) rfl er0 ek x
  · have e : rb 2 (nI j) (M.1.2.1 j 1) 8 2 2 x = ([12, 30, 11, 10, 10], ((((x + nI j) * 2) * 3) ^^^ ((x - M.1.2.1 j 1) + nI j))) := rfl
    rw [e]
    exact c_shutting2 l E M hj (r := 0) rfl er0 ek x
  · have e : rb 3 (nI j) (M.1.2.1 j 1) 8 3 2 x = ([12, 40, 11, 20, 10, 20, 10], (((((x + 1) + nI j) + M.1.2.1 j 1) * 2) ^^^ (((x - M.1.2.1 j 1) + nI j) + M.1.2.1 j 1))) := rfl
    rw [e]
    exact c_shutting3 l E M hj (r := 0) rfl er0 ek x
  · have e : rb 4 (nI j) (M.1.2.1 j 1) 8 4 2 x = ([50, 12, 11, 51, 10, 51, 10], (-((((x + nI j) - nI j) * 2) ^^^ (((x - M.1.2.1 j 1) + nI j) - nI j)))) := rfl
    rw [e]
    exact c_shutting4 l E M hj (r := 0) rfl er0 ek x
  · have e : rb 5 (nI j) (M.1.2.1 j 1) 8 5 2 x = ([60, 12, 30, 11, 10, 10], (((((x + nI j) * 2) * 3) ^^^ ((x - M.1.2.1 j 1) + nI j)) ^^^ 5)) := rfl
    rw [e]
    exact c_shutting5 l E M hj (r := 0) rfl er0 ek x
  · have e : rb 6 (nI j) (M.1.2.1 j 1) 8 6 2 x = ([50, 12, 71, 11, 70, 51, 10, 70, 51, 10], (-((((((x - M.1.2.1 j 1) + nI j) - nI j) * 2) * 2) ^^^ ((((x - M.1.2.1 j 1) + nI j) - nI j) * 2)))) := rfl
    rw [e]
    exact c_shutting6 l E M hj (r := 0) rfl er0 ek x
set_option maxRecDepth 100000 in
set_option maxHeartbeats 4000000 in
theorem c_X7_act (l : Launch) (E : zE) (M : zM) (hz : gz M.1) {N : Nat} (h : rg N M.1) (hN : N ≤ 100000000) (p mv x : Int32) : MM l E yX7_act cX7_act 4 (some .int) 5 [.ref (madr E.2.2.1 (0, 0, 0)), .int (p), .int (mv), .int (x)] (M) (fun v M2 => v = some (.int (actR M.1 p mv x).2) ∧ M2 = bdL (mI M 46 0) (actR M.1 p mv x).1) := by
  refine MM.mk kq_X7 (Nat.le_of_ble_eq_true rfl) (fun K s C0 => ?_)
  have C := C0.c
  obtain ⟨⟨eS, lS⟩, ⟨eC, lC⟩⟩ := id hz
  have hsm : sms M.1 := h.sm (by omega)
  refine z_aload_n C 0 dX7_act_0 rfl ?_
  refine z_iconst C (v := 0) dX7_act_1 rfl ?_
  refine mp_46 C dX7_act_2 ?_
  refine z_aload_n C 0 dX7_act_5 rfl ?_
  refine z_iload_n C 1 dX7_act_6 rfl ?_
  refine z_callV1 C (c_X7_isShop l E _ _) ⟨rfl, rfl⟩ rfl rfl q_X7_128 ⟨by decide, by decide⟩ (Nat.le_of_ble_eq_true rfl) dX7_act_7 (fun v F9 hp => ?_)
  obtain ⟨rfl, e9⟩ := hp
  rw [e9]
  clear e9 F9
  refine z_if_eq C 22 dX7_act_10 (by decide) (fun h10 => ?_) (fun h10 => ?_)
  · skip
    have h10 := bI_0 h10
    refine z_iconst C (v := 0) dX7_act_22 rfl ?_
    refine z_iret C0 dX7_act_23 ?_
    have e : actR M.1 p mv x = ([], 0) := by
      unfold actR
      rw [if_neg (fun z => absurd (h10.symm.trans z.1) (by decide))]
    rw [e]
    exact ⟨rfl, rfl⟩
  · skip
    have h10 := bI_1 h10
    refine z_iload_n C 2 dX7_act_13 rfl ?_
    refine z_if_lt C 22 dX7_act_14 (by decide) (fun h14 => ?_) (fun h14 => ?_)
    · skip
      refine z_iconst C (v := 0) dX7_act_22 rfl ?_
      refine z_iret C0 dX7_act_23 ?_
      have e : actR M.1 p mv x = ([], 0) := by
        unfold actR
        rw [if_neg (fun z => absurd z.2 (by rw [inR_f1 h14]; decide))]
      rw [e]
      exact ⟨rfl, rfl⟩
    · skip
      refine z_iload_n C 2 dX7_act_17 rfl ?_
      refine z_iconst C (v := 2) dX7_act_18 rfl ?_
      refine z_icmp_le C 24 dX7_act_19 (by decide) (fun h19 => ?_) (fun h19 => ?_)
      · skip
        obtain ⟨j, hj, rfl⟩ := inR_of (n := nS M.1) (by rw [← eS]; exact h10) (by omega)
        have hj6 : j < 6 := by omega
        have ej : (nI j).toNatClampNeg = j := nI_clamp (by omega)
        obtain ⟨⟨k0, hk0, ek0⟩, -⟩ := h.1 j hj
        refine z_iload_n C 2 dX7_act_24 rfl ?_
        refine z_if_ne C 37 dX7_act_25 (by decide) (fun h25 => ?_) (fun h25 => ?_)
        · skip
          refine z_iload_n C 2 dX7_act_37 rfl ?_
          refine z_iconst C (v := 1) dX7_act_38 rfl ?_
          refine z_icmp_ne C 51 dX7_act_39 (by decide) (fun h39 => ?_) (fun h39 => ?_)
          · skip
            refine z_aload_n C 0 dX7_act_51 rfl ?_
            refine z_iload_n C 1 dX7_act_52 rfl ?_
            refine z_iload_n C 3 dX7_act_53 rfl ?_
            refine z_callV2 C (c_shuttingA l E (mI M 46 0) hj6 rfl hk0 ek0 x) ⟨rfl, rfl⟩ rfl rfl q_X7_306 ⟨by decide, by decide⟩ (Nat.le_of_ble_eq_true rfl) dX7_act_54 (fun v F9 hp => ?_)
            obtain ⟨rfl, e9⟩ := hp
            rw [e9]
            clear e9 F9
            refine z_iret C0 dX7_act_57 ?_
            have em : mv = nI 2 := mv_2 h14 h19 h25 h39
            have e : actR M.1 (nI j) mv x = rb k0 (nI j) (M.1.2.1 j 1) 8 k0 2 x := by
              unfold actR
              rw [if_pos ⟨h10, by rw [em]; decide⟩, ej, ek0, nI_clamp (by omega), em]
              rfl
            rw [e]
            exact ⟨rfl, rfl⟩
          · skip
            refine z_aload_n C 0 dX7_act_42 rfl ?_
            refine z_iload_n C 1 dX7_act_43 rfl ?_
            refine z_iload_n C 3 dX7_act_44 rfl ?_
            refine z_callV2 C (c_sellingA l E (mI M 46 0) hj6 rfl hk0 ek0 x) ⟨rfl, rfl⟩ rfl rfl q_X7_303 ⟨by decide, by decide⟩ (Nat.le_of_ble_eq_true rfl) dX7_act_45 (fun v F9 hp => ?_)
            obtain ⟨rfl, e9⟩ := hp
            rw [e9]
            clear e9 F9
            refine z_goto C 57 dX7_act_48 (by decide) ?_
            refine z_iret C0 dX7_act_57 ?_
            have em : mv = nI 1 := h39
            have e : actR M.1 (nI j) mv x = rb k0 (nI j) (M.1.2.1 j 1) 8 k0 1 x := by
              unfold actR
              rw [if_pos ⟨h10, by rw [em]; decide⟩, ej, ek0, nI_clamp (by omega), em]
              rfl
            rw [e]
            exact ⟨rfl, rfl⟩
        · skip
          refine z_aload_n C 0 dX7_act_28 rfl ?_
          refine z_iload_n C 1 dX7_act_29 rfl ?_
          refine z_iload_n C 3 dX7_act_30 rfl ?_
          refine z_callV2 C (c_askingA l E (mI M 46 0) hj6 rfl hk0 ek0 x) ⟨rfl, rfl⟩ rfl rfl q_X7_300 ⟨by decide, by decide⟩ (Nat.le_of_ble_eq_true rfl) dX7_act_31 (fun v F9 hp => ?_)
          obtain ⟨rfl, e9⟩ := hp
          rw [e9]
          clear e9 F9
          refine z_goto C 57 dX7_act_34 (by decide) ?_
          refine z_iret C0 dX7_act_57 ?_
          have em : mv = nI 0 := h25
          have e : actR M.1 (nI j) mv x = rb k0 (nI j) (M.1.2.1 j 1) 8 k0 0 x := by
            unfold actR
            rw [if_pos ⟨h10, by rw [em]; decide⟩, ej, ek0, nI_clamp (by omega), em]
            rfl
          rw [e]
          exact ⟨rfl, rfl⟩
      · skip
        refine z_iconst C (v := 0) dX7_act_22 rfl ?_
        refine z_iret C0 dX7_act_23 ?_
        have e : actR M.1 p mv x = ([], 0) := by
          unfold actR
          rw [if_neg (fun z => absurd z.2 (by rw [inRle_f (a := 2) (b := 3) rfl (Int32.not_le.mp h19)]; decide))]
        rw [e]
        exact ⟨rfl, rfl⟩
