/-! the class: shelves, kinds, numbers that may be -/
theorem kq_J7 : plainName RJ7 = true := by decide +kernel
theorem kq_J0 : plainName RJ0 = true := by decide +kernel
theorem kq_J1 : plainName RJ1 = true := by decide +kernel
theorem kq_J6 : plainName RJ6 = true := by decide +kernel
set_option maxRecDepth 100000 in
set_option maxHeartbeats 4000000 in
theorem lp_fill {l : Launch} {E : zE} {K : zK} {s : State} (F : zF) {j : Nat} (hj : j < 8) (v : Int64) (C0 : XR l E K cJ7_fill_d0a16 RJ7 1 s 5 none (fun v2 F2 => v2 = none ∧ F2 = sE F j (fillN 160 (F.2.2.1 j) v))) : ∀ (n2 : Nat) (k : Nat), 160 - k < n2 → k ≤ 160 → Z K (XP E (sE F j (fillN k (F.2.2.1 j) v)) s) 6 [(0, .ref (xadr E.2.2.1 (13, j, 0))), (1, .long (v)), (3, .int (nI k)), (4, .int (nI 160))] [] := by
  have C := C0.c
  intro n2
  induction n2 with
  | zero => intro k hk hkl; exact absurd hk (Nat.not_lt_zero _)
  | succ n2 ih =>
    intro k hk hkl
    refine z_iload_n C 2 dJ7_fill_d0a16_6 rfl ?_
    refine z_iload C 3 dJ7_fill_d0a16_7 rfl ?_
    refine z_icmp_ge C 22 dJ7_fill_d0a16_9 (by decide) (fun h9 => ?_) (fun h9 => ?_)
    · skip
      refine z_vret C0 dJ7_fill_d0a16_22 ?_
      have e : k = 160 := by
        rcases Nat.lt_or_ge k (160) with q | q
        · exact absurd h9 (nI_ge (b := 160) q (by omega))
        · omega
      subst e
      exact ⟨rfl, rfl⟩
    · skip
      have hk2 : k < 160 := by
        rcases Nat.lt_or_ge k (160) with q | q
        · exact q
        · exact absurd (nI_le (a := 160) q (by omega)) h9
      refine z_aload_n C 0 dJ7_fill_d0a16_12 rfl ?_
      refine z_iload_n C 2 dJ7_fill_d0a16_13 rfl ?_
      refine z_lload_n C 1 dJ7_fill_d0a16_14 rfl ?_
      refine xs_13 C (by first | assumption | omega) k rfl (by first | assumption | omega) dJ7_fill_d0a16_15 ?_
      refine z_iinc C (v := nI (k + 1)) 2 dJ7_fill_d0a16_16 rfl (nI_1 _) (by decide) ?_
      refine z_goto C 6 dJ7_fill_d0a16_19 (by decide) ?_
      refine z_pick [1, 2, 0, 3] rfl ?_
      have q := ih (k + 1) (by omega) (by omega)
      rw [fillN_s] at q
      refine z_mono ?_ q
      intro H h
      refine Eq.mp ?_ h
      congr 1
      simp only [sE, va_up_self, va_up_up]
set_option maxRecDepth 100000 in
set_option maxHeartbeats 4000000 in
theorem c_fill (l : Launch) (E : zE) (F : zF) {j : Nat} (hj : j < 8) (v : Int64) : XM l E yJ7_fill_d0a16 cJ7_fill_d0a16 5 none 1 [.ref (xadr E.2.2.1 (13, j, 0)), .long (v)] (F) (fun v2 F2 => v2 = none ∧ F2 = sE F j (fillN 160 (F.2.2.1 j) v)) := by
  refine XM.mk kq_J7 (Nat.le_of_ble_eq_true rfl) (fun K s C0 => ?_)
  have C := C0.c
  refine z_iconst C (v := 0) dJ7_fill_d0a16_0 rfl ?_
  refine z_istore_n (i := 3) C dJ7_fill_d0a16_1 rfl (by decide) ?_
  refine z_aload_n C 1 dJ7_fill_d0a16_2 rfl ?_
  refine z_alen (key := (13, j, 0)) (v := nI 160) C 1 ⟨hj, rfl⟩ rfl rfl rfl dJ7_fill_d0a16_3 ?_
  refine z_istore C dJ7_fill_d0a16_4 (by decide) ?_
  refine z_pick [2, 3, 1, 0] rfl ?_
  have q := lp_fill F hj v C0 161 0 (by omega) (by omega)
  rw [fillN_0, show sE F j (F.2.2.1 j) = F by unfold sE; rw [va_up_id]] at q
  exact q
set_option maxRecDepth 100000 in
set_option maxHeartbeats 4000000 in
theorem c_X3_hasRow (l : Launch) (E : zE) (F : zF) {j : Nat} (hj : j < 8) : XM l E yX3_hasRow cX3_hasRow 1 (some .boolean) 1 [.ref (xadr E.2.2.1 (12, j, 0))] (F) (fun v F2 => v = some (.int (bI (hRow (F.2.1 j 0)))) ∧ F2 = F) := by
  refine XM.mk kq_X3 (Nat.le_of_ble_eq_true rfl) (fun K s C0 => ?_)
  have C := C0.c
  refine z_aload_n C 0 dX3_hasRow_0 rfl ?_
  refine xg_12 (k := 0) C (by first | assumption | omega) (by decide) kf_X3_15 dX3_hasRow_1 ?_
  refine z_bipush C (v := 100) dX3_hasRow_4 rfl ?_
  refine z_icmp_lt C 13 dX3_hasRow_6 (by decide) (fun h6 => ?_) (fun h6 => ?_)
  · skip
    refine z_iconst C (v := 0) dX3_hasRow_13 rfl ?_
    refine z_zret C0 rfl dX3_hasRow_14 ?_
    exact ⟨by simp only [hRow, decide_eq_true h6]; rfl, rfl⟩
  · skip
    refine z_iconst C (v := 1) dX3_hasRow_9 rfl ?_
    refine z_goto C 14 dX3_hasRow_10 (by decide) ?_
    refine z_zret C0 rfl dX3_hasRow_14 ?_
    exact ⟨by simp only [hRow, decide_eq_false h6]; rfl, rfl⟩
set_option maxRecDepth 100000 in
set_option maxHeartbeats 4000000 in
theorem c_X3_hasShop (l : Launch) (E : zE) (F : zF) {j : Nat} (hj : j < 8) : XM l E yX3_hasShop cX3_hasShop 1 (some .boolean) 1 [.ref (xadr E.2.2.1 (12, j, 0))] (F) (fun v F2 => v = some (.int (bI (hShop (F.2.1 j 0)))) ∧ F2 = F) := by
  refine XM.mk kq_X3 (Nat.le_of_ble_eq_true rfl) (fun K s C0 => ?_)
  have C := C0.c
  refine z_aload_n C 0 dX3_hasShop_0 rfl ?_
  refine xg_12 (k := 0) C (by first | assumption | omega) (by decide) kf_X3_15 dX3_hasShop_1 ?_
  refine z_if_lt C 20 dX3_hasShop_4 (by decide) (fun h4 => ?_) (fun h4 => ?_)
  · skip
    refine z_iconst C (v := 0) dX3_hasShop_20 rfl ?_
    refine z_zret C0 rfl dX3_hasShop_21 ?_
    exact ⟨by simp only [hShop, decide_eq_true h4]; rfl, rfl⟩
  · skip
    refine z_aload_n C 0 dX3_hasShop_7 rfl ?_
    refine xg_12 (k := 0) C (by first | assumption | omega) (by decide) kf_X3_15 dX3_hasShop_8 ?_
    refine z_bipush C (v := 100) dX3_hasShop_11 rfl ?_
    refine z_icmp_ge C 20 dX3_hasShop_13 (by decide) (fun h13 => ?_) (fun h13 => ?_)
    · skip
      refine z_iconst C (v := 0) dX3_hasShop_20 rfl ?_
      refine z_zret C0 rfl dX3_hasShop_21 ?_
      exact ⟨by simp only [hShop, decide_eq_false h4, decide_eq_true h13]; rfl, rfl⟩
    · skip
      refine z_iconst C (v := 1) dX3_hasShop_16 rfl ?_
      refine z_goto C 21 dX3_hasShop_17 (by decide) ?_
      refine z_zret C0 rfl dX3_hasShop_21 ?_
      exact ⟨by simp only [hShop, decide_eq_false h4, decide_eq_false h13]; rfl, rfl⟩
set_option maxRecDepth 100000 in
set_option maxHeartbeats 4000000 in
theorem c_X3_hold (l : Launch) (E : zE) (F : zF) {j : Nat} (hj : j < 8) (x : Int32) : XM l E yX3_hold cX3_hold 2 none 1 [.ref (xadr E.2.2.1 (12, j, 0)), .int (x)] (F) (fun v F2 => v = none ∧ F2 = sV (sV F j 0 x) j 1 0) := by
  refine XM.mk kq_X3 (Nat.le_of_ble_eq_true rfl) (fun K s C0 => ?_)
  have C := C0.c
  refine z_aload_n C 0 dX3_hold_0 rfl ?_
  refine z_iload_n C 1 dX3_hold_1 rfl ?_
  refine xp_12 (k := 0) C (by first | assumption | omega) (by decide) kf_X3_15 dX3_hold_2 ?_
  refine z_aload_n C 0 dX3_hold_5 rfl ?_
  refine z_iconst C (v := 0) dX3_hold_6 rfl ?_
  refine xp_12 (k := 1) C (by first | assumption | omega) (by decide) kf_X3_19 dX3_hold_7 ?_
  refine z_vret C0 dX3_hold_10 ?_
  exact ⟨rfl, rfl⟩
set_option maxRecDepth 100000 in
set_option maxHeartbeats 4000000 in
theorem c_X3_layRow (l : Launch) (E : zE) (F : zF) {j : Nat} (hj : j < 8) (o n : Int32) : XM l E yX3_layRow cX3_layRow 3 none 2 [.ref (xadr E.2.2.1 (12, j, 0)), .int (o), .int (n)] (F) (fun v F2 => v = none ∧ F2 = sE (sV (sV F j 0 (100 + o)) j 1 n) j (fillN 160 (F.2.2.1 j) 0)) := by
  refine XM.mk kq_X3 (Nat.le_of_ble_eq_true rfl) (fun K s C0 => ?_)
  have C := C0.c
  refine z_aload_n C 0 dX3_layRow_0 rfl ?_
  refine z_bipush C (v := 100) dX3_layRow_1 rfl ?_
  refine z_iload_n C 1 dX3_layRow_3 rfl ?_
  refine z_iadd C dX3_layRow_4 ?_
  refine xp_12 (k := 0) C (by first | assumption | omega) (by decide) kf_X3_15 dX3_layRow_5 ?_
  refine z_aload_n C 0 dX3_layRow_8 rfl ?_
  refine z_iload_n C 2 dX3_layRow_9 rfl ?_
  refine xp_12 (k := 1) C (by first | assumption | omega) (by decide) kf_X3_19 dX3_layRow_10 ?_
  refine z_aload_n C 0 dX3_layRow_13 rfl ?_
  refine xg_12e C (by first | assumption | omega) kf_X3_9 dX3_layRow_14 ?_
  refine z_lconst C (v := 0) dX3_layRow_17 rfl ?_
  refine z_callS2 C (c_fill l E _ (by first | assumption | omega) _) q_X3_22 ⟨by decide, by decide⟩ (Nat.le_of_ble_eq_true rfl) dX3_layRow_18 (fun v F9 hp => ?_)
  obtain ⟨rfl, rfl⟩ := hp
  refine z_vret C0 dX3_layRow_21 ?_
  exact ⟨rfl, rfl⟩
set_option maxRecDepth 100000 in
set_option maxHeartbeats 4000000 in
theorem c_X3_hasPart (l : Launch) (E : zE) (F : zF) {j : Nat} (hj : j < 8) (i n : Int32) : XM l E yX3_hasPart cX3_hasPart 3 (some .boolean) 1 [.ref (xadr E.2.2.1 (12, j, 0)), .int (i), .int (n)] (F) (fun v F2 => v = some (.int (bI (hPart i n (F.2.1 j 1)))) ∧ F2 = F) := by
  refine XM.mk kq_X3 (Nat.le_of_ble_eq_true rfl) (fun K s C0 => ?_)
  have C := C0.c
  refine z_iload_n C 1 dX3_hasPart_0 rfl ?_
  refine z_if_lt C 22 dX3_hasPart_1 (by decide) (fun h1 => ?_) (fun h1 => ?_)
  · skip
    refine z_iconst C (v := 0) dX3_hasPart_22 rfl ?_
    refine z_zret C0 rfl dX3_hasPart_23 ?_
    exact ⟨by simp only [hPart, decide_eq_true h1]; rfl, rfl⟩
  · skip
    refine z_iload_n C 1 dX3_hasPart_4 rfl ?_
    refine z_i2l C dX3_hasPart_5 ?_
    refine z_iload_n C 2 dX3_hasPart_6 rfl ?_
    refine z_i2l C dX3_hasPart_7 ?_
    refine z_ladd C dX3_hasPart_8 ?_
    refine z_aload_n C 0 dX3_hasPart_9 rfl ?_
    refine xg_12 (k := 1) C (by first | assumption | omega) (by decide) kf_X3_19 dX3_hasPart_10 ?_
    refine z_i2l C dX3_hasPart_13 ?_
    refine z_lcmp C dX3_hasPart_14 ?_
    refine z_if_gt C 22 dX3_hasPart_15 (by decide) (fun h15 => ?_) (fun h15 => ?_)
    · skip
      refine z_iconst C (v := 0) dX3_hasPart_22 rfl ?_
      refine z_zret C0 rfl dX3_hasPart_23 ?_
      exact ⟨by simp only [hPart, decide_eq_false h1, decide_eq_true h15]; rfl, rfl⟩
    · skip
      refine z_iconst C (v := 1) dX3_hasPart_18 rfl ?_
      refine z_goto C 23 dX3_hasPart_19 (by decide) ?_
      refine z_zret C0 rfl dX3_hasPart_23 ?_
      exact ⟨by simp only [hPart, decide_eq_false h1, decide_eq_false h15]; rfl, rfl⟩
set_option maxRecDepth 100000 in
set_option maxHeartbeats 4000000 in
theorem c_X3_put (l : Launch) (E : zE) (F : zF) {j : Nat} (hj : j < 8) {k : Nat} (hk : k < 160) (hkl : nI k < F.2.1 j 1) (hh : F.2.1 j 0 - 100 = 0 ∨ F.2.1 j 0 - 100 = 1 ∨ F.2.1 j 0 - 100 = 2 ∨ F.2.1 j 0 - 100 = 3) (v : Int64) : XM l E yX3_put cX3_put 4 none 1 [.ref (xadr E.2.2.1 (12, j, 0)), .int (nI k), .long (v)] (F) (fun v2 F2 => v2 = none ∧ F2 = sE F j (vp_updL (F.2.2.1 j) k (putV (F.2.1 j 0) v))) := by
  refine XM.mk kq_X3 (Nat.le_of_ble_eq_true rfl) (fun K s C0 => ?_)
  have C := C0.c
  refine z_iload_n C 1 dX3_put_0 rfl ?_
  refine z_if_lt C 12 dX3_put_1 (by decide) (fun h1 => ?_) (fun h1 => ?_)
  · exact absurd h1 (nI_pos (by omega))
  · skip
    refine z_iload_n C 1 dX3_put_4 rfl ?_
    refine z_aload_n C 0 dX3_put_5 rfl ?_
    refine xg_12 (k := 1) C (by first | assumption | omega) (by decide) kf_X3_19 dX3_put_6 ?_
    refine z_icmp_lt C 13 dX3_put_9 (by decide) (fun h9 => ?_) (fun h9 => ?_)
    · skip
      refine z_aload_n C 0 dX3_put_13 rfl ?_
      refine xg_12 (k := 0) C (by first | assumption | omega) (by decide) kf_X3_15 dX3_put_14 ?_
      refine z_bipush C (v := 100) dX3_put_17 rfl ?_
      refine z_isub C dX3_put_19 ?_
      refine z_case (0) (fun h20_0 => ?_) (fun h20_0 => ?_)
      · refine z_tabIn C (0) (32) 52 h20_0 dX3_put_20 (by decide) (by decide) ?_
        refine z_aload_n C 0 dX3_put_52 rfl ?_
        refine xg_12e C (by first | assumption | omega) kf_X3_9 dX3_put_53 ?_
        refine z_iload_n C 1 dX3_put_56 rfl ?_
        refine z_lload_n C 2 dX3_put_57 rfl ?_
        refine z_l2i C dX3_put_58 ?_
        refine z_i2b C dX3_put_59 ?_
        refine z_i2l C dX3_put_60 ?_
        refine xs_13 C (by first | assumption | omega) k rfl (by first | assumption | omega) dX3_put_61 ?_
        refine z_goto C 100 dX3_put_62 (by decide) ?_
        refine z_vret C0 dX3_put_100 ?_
        refine ⟨rfl, ?_⟩
        simp only [putV]
        rw [if_pos h20_0]
      refine z_case (1) (fun h20_1 => ?_) (fun h20_1 => ?_)
      · refine z_tabIn C (1) (45) 65 h20_1 dX3_put_20 (by decide) (by decide) ?_
        refine z_aload_n C 0 dX3_put_65 rfl ?_
        refine xg_12e C (by first | assumption | omega) kf_X3_9 dX3_put_66 ?_
        refine z_iload_n C 1 dX3_put_69 rfl ?_
        refine z_lload_n C 2 dX3_put_70 rfl ?_
        refine z_l2i C dX3_put_71 ?_
        refine z_i2s C dX3_put_72 ?_
        refine z_i2l C dX3_put_73 ?_
        refine xs_13 C (by first | assumption | omega) k rfl (by first | assumption | omega) dX3_put_74 ?_
        refine z_goto C 100 dX3_put_75 (by decide) ?_
        refine z_vret C0 dX3_put_100 ?_
        refine ⟨rfl, ?_⟩
        simp only [putV]
        rw [if_neg h20_0, if_pos h20_1]
      refine z_case (2) (fun h20_2 => ?_) (fun h20_2 => ?_)
      · refine z_tabIn C (2) (58) 78 h20_2 dX3_put_20 (by decide) (by decide) ?_
        refine z_aload_n C 0 dX3_put_78 rfl ?_
        refine xg_12e C (by first | assumption | omega) kf_X3_9 dX3_put_79 ?_
        refine z_iload_n C 1 dX3_put_82 rfl ?_
        refine z_lload_n C 2 dX3_put_83 rfl ?_
        refine z_l2i C dX3_put_84 ?_
        refine z_i2l C dX3_put_85 ?_
        refine xs_13 C (by first | assumption | omega) k rfl (by first | assumption | omega) dX3_put_86 ?_
        refine z_goto C 100 dX3_put_87 (by decide) ?_
        refine z_vret C0 dX3_put_100 ?_
        refine ⟨rfl, ?_⟩
        simp only [putV]
        rw [if_neg h20_0, if_neg h20_1, if_pos h20_2]
      refine z_case (3) (fun h20_3 => ?_) (fun h20_3 => ?_)
      · refine z_tabIn C (3) (70) 90 h20_3 dX3_put_20 (by decide) (by decide) ?_
        refine z_aload_n C 0 dX3_put_90 rfl ?_
        refine xg_12e C (by first | assumption | omega) kf_X3_9 dX3_put_91 ?_
        refine z_iload_n C 1 dX3_put_94 rfl ?_
        refine z_lload_n C 2 dX3_put_95 rfl ?_
        refine xs_13 C (by first | assumption | omega) k rfl (by first | assumption | omega) dX3_put_96 ?_
        refine z_goto C 100 dX3_put_97 (by decide) ?_
        refine z_vret C0 dX3_put_100 ?_
        refine ⟨rfl, ?_⟩
        simp only [putV]
        rw [if_neg h20_0, if_neg h20_1, if_neg h20_2]
      exact absurd hh (by simp only [h20_0, h20_1, h20_2, h20_3, or_self, not_false_eq_true])
    · exact absurd hkl h9
set_option maxRecDepth 100000 in
set_option maxHeartbeats 4000000 in
theorem c_X3_asInt (l : Launch) (E : zE) (F : zF) {j : Nat} (hj : j < 8) {len : Nat} (hlen : F.2.1 j 1 = nI len) (hl : len ≤ 160) (i : Int32) : XM l E yX3_asInt cX3_asInt 2 (some .int) 1 [.ref (xadr E.2.2.1 (12, j, 0)), .int (i)] (F) (fun v F2 => v = some (.int (asI (F.2.1 j 1) (F.2.2.1 j) i)) ∧ F2 = F) := by
  refine XM.mk kq_X3 (Nat.le_of_ble_eq_true rfl) (fun K s C0 => ?_)
  have C := C0.c
  refine z_iload_n C 1 dX3_asInt_0 rfl ?_
  refine z_if_lt C 22 dX3_asInt_1 (by decide) (fun h1 => ?_) (fun h1 => ?_)
  · skip
    refine z_iconst C (v := (-1)) dX3_asInt_22 rfl ?_
    refine z_iret C0 dX3_asInt_23 ?_
    refine ⟨?_, rfl⟩
    unfold asI
    rw [if_neg (by rw [inR_f1 h1]; decide)]
  · skip
    refine z_iload_n C 1 dX3_asInt_4 rfl ?_
    refine z_aload_n C 0 dX3_asInt_5 rfl ?_
    refine xg_12 (k := 1) C (by first | assumption | omega) (by decide) kf_X3_19 dX3_asInt_6 ?_
    refine z_icmp_ge C 22 dX3_asInt_9 (by decide) (fun h9 => ?_) (fun h9 => ?_)
    · skip
      refine z_iconst C (v := (-1)) dX3_asInt_22 rfl ?_
      refine z_iret C0 dX3_asInt_23 ?_
      refine ⟨?_, rfl⟩
      unfold asI
      rw [if_neg (by rw [inR_f2 h9]; decide)]
    · skip
      obtain ⟨q, hq, eq⟩ := i_rng (n := len) h1 (by rw [← hlen]; exact Int32.not_le.mp h9) (by omega)
      have hq2 : q < 160 := by omega
      refine z_aload_n C 0 dX3_asInt_12 rfl ?_
      refine xg_12e C (by first | assumption | omega) kf_X3_9 dX3_asInt_13 ?_
      refine z_iload_n C 1 dX3_asInt_16 rfl ?_
      refine xl_13 C (by first | assumption | omega) q eq hq2 dX3_asInt_17 ?_
      refine z_l2i C dX3_asInt_18 ?_
      refine z_goto C 23 dX3_asInt_19 (by decide) ?_
      refine z_iret C0 dX3_asInt_23 ?_
      refine ⟨?_, rfl⟩
      unfold asI
      rw [if_pos (inR_t h1 (Int32.not_le.mp h9)), eq, nI_clamp (by omega)]
set_option maxRecDepth 100000 in
set_option maxHeartbeats 4000000 in
theorem c_X5_begin (l : Launch) (E : zE) (F : zF) (b : Int32) : XM l E yX5_begin cX5_begin 2 none 1 [.ref (xadr E.2.2.1 (10, 0, 0)), .int (b)] (F) (fun v F2 => v = none ∧ F2 = begS F b) := by
  refine XM.mk kq_X5 (Nat.le_of_ble_eq_true rfl) (fun K s C0 => ?_)
  have C := C0.c
  refine z_aload_n C 0 dX5_begin_0 rfl ?_
  refine xg_10 (k := 0) C (by decide) kf_X5_15 dX5_begin_1 ?_
  refine z_if_lt C 26 dX5_begin_4 (by decide) (fun h4 => ?_) (fun h4 => ?_)
  · skip
    refine z_aload_n C 0 dX5_begin_26 rfl ?_
    refine z_dup C dX5_begin_27 rfl ?_
    refine xg_10 (k := 0) C (by decide) kf_X5_15 dX5_begin_28 ?_
    refine z_iconst C (v := 1) dX5_begin_31 rfl ?_
    refine z_iadd C dX5_begin_32 ?_
    refine xp_10 (k := 0) C (by decide) kf_X5_15 dX5_begin_33 ?_
    refine z_vret C0 dX5_begin_36 ?_
    refine ⟨rfl, ?_⟩
    unfold begS
    rw [if_neg (by rw [inR_f1 h4]; decide)]
  · skip
    refine z_aload_n C 0 dX5_begin_7 rfl ?_
    refine xg_10 (k := 0) C (by decide) kf_X5_15 dX5_begin_8 ?_
    refine z_bipush C (v := 20) dX5_begin_11 rfl ?_
    refine z_icmp_ge C 26 dX5_begin_13 (by decide) (fun h13 => ?_) (fun h13 => ?_)
    · skip
      refine z_aload_n C 0 dX5_begin_26 rfl ?_
      refine z_dup C dX5_begin_27 rfl ?_
      refine xg_10 (k := 0) C (by decide) kf_X5_15 dX5_begin_28 ?_
      refine z_iconst C (v := 1) dX5_begin_31 rfl ?_
      refine z_iadd C dX5_begin_32 ?_
      refine xp_10 (k := 0) C (by decide) kf_X5_15 dX5_begin_33 ?_
      refine z_vret C0 dX5_begin_36 ?_
      refine ⟨rfl, ?_⟩
      unfold begS
      rw [if_neg (by rw [inR_f2 h13]; decide)]
    · skip
      obtain ⟨q, hq, eq⟩ := i_rng (n := 20) h4 (Int32.not_le.mp h13) (by omega)
      refine z_aload_n C 0 dX5_begin_16 rfl ?_
      refine xg_10b C kf_X5_9 dX5_begin_17 ?_
      refine z_aload_n C 0 dX5_begin_20 rfl ?_
      refine xg_10 (k := 0) C (by decide) kf_X5_15 dX5_begin_21 ?_
      refine z_iload_n C 1 dX5_begin_24 rfl ?_
      refine xs_11 C q eq hq dX5_begin_25 ?_
      refine z_aload_n C 0 dX5_begin_26 rfl ?_
      refine z_dup C dX5_begin_27 rfl ?_
      refine xg_10 (k := 0) C (by decide) kf_X5_15 dX5_begin_28 ?_
      refine z_iconst C (v := 1) dX5_begin_31 rfl ?_
      refine z_iadd C dX5_begin_32 ?_
      refine xp_10 (k := 0) C (by decide) kf_X5_15 dX5_begin_33 ?_
      refine z_vret C0 dX5_begin_36 ?_
      refine ⟨rfl, ?_⟩
      unfold begS
      rw [if_pos (inR_t h4 (Int32.not_le.mp h13)), eq, nI_clamp (by omega)]
set_option maxRecDepth 100000 in
set_option maxHeartbeats 4000000 in
theorem c_X6_isShelf (l : Launch) (E : zE) (F : zF) (x : Int32) : XM l E yX6_isShelf cX6_isShelf 1 (some .boolean) 1 [.int (x)] (F) (fun v F2 => v = some (.int (bI (inR x 8))) ∧ F2 = F) := by
  refine XM.mk kq_X6 (Nat.le_of_ble_eq_true rfl) (fun K s C0 => ?_)
  have C := C0.c
  refine z_iload_n C 0 dX6_isShelf_0 rfl ?_
  refine z_if_lt C 14 dX6_isShelf_1 (by decide) (fun h1 => ?_) (fun h1 => ?_)
  · skip
    refine z_iconst C (v := 0) dX6_isShelf_14 rfl ?_
    refine z_zret C0 rfl dX6_isShelf_15 ?_
    refine ⟨?_, rfl⟩
    rw [inR_f1 h1]
    rfl
  · skip
    refine z_iload_n C 0 dX6_isShelf_4 rfl ?_
    refine z_bipush C (v := 8) dX6_isShelf_5 rfl ?_
    refine z_icmp_ge C 14 dX6_isShelf_7 (by decide) (fun h7 => ?_) (fun h7 => ?_)
    · skip
      refine z_iconst C (v := 0) dX6_isShelf_14 rfl ?_
      refine z_zret C0 rfl dX6_isShelf_15 ?_
      refine ⟨?_, rfl⟩
      rw [inR_f2 h7]
      rfl
    · skip
      refine z_iconst C (v := 1) dX6_isShelf_10 rfl ?_
      refine z_goto C 15 dX6_isShelf_11 (by decide) ?_
      refine z_zret C0 rfl dX6_isShelf_15 ?_
      refine ⟨?_, rfl⟩
      rw [inR_t h1 (Int32.not_le.mp h7)]
      rfl
set_option maxRecDepth 100000 in
set_option maxHeartbeats 4000000 in
theorem c_X6_isKind (l : Launch) (E : zE) (F : zF) (x : Int32) : XM l E yX6_isKind cX6_isKind 1 (some .boolean) 1 [.int (x)] (F) (fun v F2 => v = some (.int (bI (inR x 7))) ∧ F2 = F) := by
  refine XM.mk kq_X6 (Nat.le_of_ble_eq_true rfl) (fun K s C0 => ?_)
  have C := C0.c
  refine z_iload_n C 0 dX6_isKind_0 rfl ?_
  refine z_if_lt C 14 dX6_isKind_1 (by decide) (fun h1 => ?_) (fun h1 => ?_)
  · skip
    refine z_iconst C (v := 0) dX6_isKind_14 rfl ?_
    refine z_zret C0 rfl dX6_isKind_15 ?_
    refine ⟨?_, rfl⟩
    rw [inR_f1 h1]
    rfl
  · skip
    refine z_iload_n C 0 dX6_isKind_4 rfl ?_
    refine z_bipush C (v := 7) dX6_isKind_5 rfl ?_
    refine z_icmp_ge C 14 dX6_isKind_7 (by decide) (fun h7 => ?_) (fun h7 => ?_)
    · skip
      refine z_iconst C (v := 0) dX6_isKind_14 rfl ?_
      refine z_zret C0 rfl dX6_isKind_15 ?_
      refine ⟨?_, rfl⟩
      rw [inR_f2 h7]
      rfl
    · skip
      refine z_iconst C (v := 1) dX6_isKind_10 rfl ?_
      refine z_goto C 15 dX6_isKind_11 (by decide) ?_
      refine z_zret C0 rfl dX6_isKind_15 ?_
      refine ⟨?_, rfl⟩
      rw [inR_t h1 (Int32.not_le.mp h7)]
      rfl
set_option maxRecDepth 100000 in
set_option maxHeartbeats 4000000 in
theorem c_X6_isRule (l : Launch) (E : zE) (F : zF) (x : Int32) : XM l E yX6_isRule cX6_isRule 1 (some .boolean) 1 [.int (x)] (F) (fun v F2 => v = some (.int (bI (inR x 4))) ∧ F2 = F) := by
  refine XM.mk kq_X6 (Nat.le_of_ble_eq_true rfl) (fun K s C0 => ?_)
  have C := C0.c
  refine z_iload_n C 0 dX6_isRule_0 rfl ?_
  refine z_if_lt C 13 dX6_isRule_1 (by decide) (fun h1 => ?_) (fun h1 => ?_)
  · skip
    refine z_iconst C (v := 0) dX6_isRule_13 rfl ?_
    refine z_zret C0 rfl dX6_isRule_14 ?_
    refine ⟨?_, rfl⟩
    rw [inR_f1 h1]
    rfl
  · skip
    refine z_iload_n C 0 dX6_isRule_4 rfl ?_
    refine z_iconst C (v := 4) dX6_isRule_5 rfl ?_
    refine z_icmp_ge C 13 dX6_isRule_6 (by decide) (fun h6 => ?_) (fun h6 => ?_)
    · skip
      refine z_iconst C (v := 0) dX6_isRule_13 rfl ?_
      refine z_zret C0 rfl dX6_isRule_14 ?_
      refine ⟨?_, rfl⟩
      rw [inR_f2 h6]
      rfl
    · skip
      refine z_iconst C (v := 1) dX6_isRule_9 rfl ?_
      refine z_goto C 14 dX6_isRule_10 (by decide) ?_
      refine z_zret C0 rfl dX6_isRule_14 ?_
      refine ⟨?_, rfl⟩
      rw [inR_t h1 (Int32.not_le.mp h6)]
      rfl
set_option maxRecDepth 100000 in
set_option maxHeartbeats 4000000 in
theorem c_X6_isTime (l : Launch) (E : zE) (F : zF) (x : Int32) : XM l E yX6_isTime cX6_isTime 1 (some .boolean) 1 [.int (x)] (F) (fun v F2 => v = some (.int (bI (inT x 240))) ∧ F2 = F) := by
  refine XM.mk kq_X6 (Nat.le_of_ble_eq_true rfl) (fun K s C0 => ?_)
  have C := C0.c
  refine z_iload_n C 0 dX6_isTime_0 rfl ?_
  refine z_if_lt C 15 dX6_isTime_1 (by decide) (fun h1 => ?_) (fun h1 => ?_)
  · skip
    refine z_iconst C (v := 0) dX6_isTime_15 rfl ?_
    refine z_zret C0 rfl dX6_isTime_16 ?_
    refine ⟨?_, rfl⟩
    rw [inT_f1 h1]
    rfl
  · skip
    refine z_iload_n C 0 dX6_isTime_4 rfl ?_
    refine z_sipush C (v := 240) dX6_isTime_5 rfl ?_
    refine z_icmp_gt C 15 dX6_isTime_8 (by decide) (fun h8 => ?_) (fun h8 => ?_)
    · skip
      refine z_iconst C (v := 0) dX6_isTime_15 rfl ?_
      refine z_zret C0 rfl dX6_isTime_16 ?_
      refine ⟨?_, rfl⟩
      rw [inT_f2 h8]
      rfl
    · skip
      refine z_iconst C (v := 1) dX6_isTime_11 rfl ?_
      refine z_goto C 16 dX6_isTime_12 (by decide) ?_
      refine z_zret C0 rfl dX6_isTime_16 ?_
      refine ⟨?_, rfl⟩
      rw [inT_t h1 (Int32.not_lt.mp h8)]
      rfl
set_option maxRecDepth 100000 in
set_option maxHeartbeats 4000000 in
theorem c_X6_isShop (l : Launch) (E : zE) (F : zF) (x : Int32) : XM l E yX6_isShop cX6_isShop 2 (some .boolean) 1 [.ref (xadr E.2.2.1 (0, 0, 0)), .int (x)] (F) (fun v F2 => v = some (.int (bI (inR x ((F.1 0).1.1 0)))) ∧ F2 = F) := by
  refine XM.mk kq_X6 (Nat.le_of_ble_eq_true rfl) (fun K s C0 => ?_)
  have C := C0.c
  refine z_iload_n C 1 dX6_isShop_0 rfl ?_
  refine z_if_lt C 19 dX6_isShop_1 (by decide) (fun h1 => ?_) (fun h1 => ?_)
  · skip
    refine z_iconst C (v := 0) dX6_isShop_19 rfl ?_
    refine z_zret C0 rfl dX6_isShop_20 ?_
    refine ⟨?_, rfl⟩
    rw [inR_f1 h1]
    rfl
  · skip
    refine z_iload_n C 1 dX6_isShop_4 rfl ?_
    refine z_aload_n C 0 dX6_isShop_5 rfl ?_
    refine xg_0_2 C kf_X6_22 dX6_isShop_6 ?_
    refine xg_3 (k := 0) C (by decide) (by decide) kf_X6_116 dX6_isShop_9 ?_
    refine z_icmp_ge C 19 dX6_isShop_12 (by decide) (fun h12 => ?_) (fun h12 => ?_)
    · skip
      refine z_iconst C (v := 0) dX6_isShop_19 rfl ?_
      refine z_zret C0 rfl dX6_isShop_20 ?_
      refine ⟨?_, rfl⟩
      rw [inR_f2 h12]
      rfl
    · skip
      refine z_iconst C (v := 1) dX6_isShop_15 rfl ?_
      refine z_goto C 20 dX6_isShop_16 (by decide) ?_
      refine z_zret C0 rfl dX6_isShop_20 ?_
      refine ⟨?_, rfl⟩
      rw [inR_t h1 (Int32.not_le.mp h12)]
      rfl
set_option maxRecDepth 100000 in
set_option maxHeartbeats 4000000 in
theorem c_X6_isChild (l : Launch) (E : zE) (F : zF) (x : Int32) : XM l E yX6_isChild cX6_isChild 2 (some .boolean) 1 [.ref (xadr E.2.2.1 (0, 0, 0)), .int (x)] (F) (fun v F2 => v = some (.int (bI (inR x ((F.1 0).1.1 1)))) ∧ F2 = F) := by
  refine XM.mk kq_X6 (Nat.le_of_ble_eq_true rfl) (fun K s C0 => ?_)
  have C := C0.c
  refine z_iload_n C 1 dX6_isChild_0 rfl ?_
  refine z_if_lt C 19 dX6_isChild_1 (by decide) (fun h1 => ?_) (fun h1 => ?_)
  · skip
    refine z_iconst C (v := 0) dX6_isChild_19 rfl ?_
    refine z_zret C0 rfl dX6_isChild_20 ?_
    refine ⟨?_, rfl⟩
    rw [inR_f1 h1]
    rfl
  · skip
    refine z_iload_n C 1 dX6_isChild_4 rfl ?_
    refine z_aload_n C 0 dX6_isChild_5 rfl ?_
    refine xg_0_2 C kf_X6_22 dX6_isChild_6 ?_
    refine xg_3 (k := 1) C (by decide) (by decide) kf_X6_123 dX6_isChild_9 ?_
    refine z_icmp_ge C 19 dX6_isChild_12 (by decide) (fun h12 => ?_) (fun h12 => ?_)
    · skip
      refine z_iconst C (v := 0) dX6_isChild_19 rfl ?_
      refine z_zret C0 rfl dX6_isChild_20 ?_
      refine ⟨?_, rfl⟩
      rw [inR_f2 h12]
      rfl
    · skip
      refine z_iconst C (v := 1) dX6_isChild_15 rfl ?_
      refine z_goto C 20 dX6_isChild_16 (by decide) ?_
      refine z_zret C0 rfl dX6_isChild_20 ?_
      refine ⟨?_, rfl⟩
      rw [inR_t h1 (Int32.not_le.mp h12)]
      rfl
set_option maxRecDepth 100000 in
set_option maxHeartbeats 4000000 in
theorem lp_X4_isOf {l : Launch} {E : zE} {K : zK} {s : State} (F : zF) {gi j : Nat} (hg : gi < 4) (hj : j < 6) (w : Int32) (C0 : XR l E K cX4_isOf RX4 2 s 4 (some .boolean) (fun v F2 => v = some (.int (bI (ofN 7 ((F.1 gi).1.2.1 j 0) w))) ∧ F2 = F)) : ∀ (n2 : Nat) (t : Nat) (one : Int32), 7 - t < n2 → t ≤ 7 → ofN 7 ((F.1 gi).1.2.1 j 0) w = ofN (7 - t) one w → Z K (XP E (F) s) 7 [(0, .ref (xadr E.2.2.1 (6, gi, j))), (1, .int (w)), (2, .int (one)), (3, .int (nI t))] [] := by
  have C := C0.c
  intro n2
  induction n2 with
  | zero => intro t one hk hkl hr; exact absurd hk (Nat.not_lt_zero _)
  | succ n2 ih =>
    intro t one hk hkl hr
    refine z_iload_n C 3 dX4_isOf_7 rfl ?_
    refine z_bipush C (v := 7) dX4_isOf_8 rfl ?_
    refine z_icmp_ge C 39 dX4_isOf_10 (by decide) (fun h10 => ?_) (fun h10 => ?_)
    · skip
      refine z_iconst C (v := 0) dX4_isOf_39 rfl ?_
      refine z_zret C0 rfl dX4_isOf_40 ?_
      refine ⟨?_, rfl⟩
      rw [hr]
      have e : t = 7 := by
        rcases Nat.lt_or_ge t (7) with q | q
        · exact absurd h10 (nI_ge (b := 7) q (by omega))
        · omega
      subst e
      rfl
    · skip
      have ht2 : t < 7 := by
        rcases Nat.lt_or_ge t (7) with q | q
        · exact q
        · exact absurd (nI_le (a := 7) q (by omega)) h10
      have e7 : 7 - t = (7 - (t + 1)) + 1 := by omega
      refine z_iload_n C 2 dX4_isOf_13 rfl ?_
      refine z_callSN1 C (c_X6_isKind l E _ _) (fun u h => h.1) ⟨⟨ks_X6_isKind, ki_X6, kc_X6_isKind⟩, kp_X6_isKind⟩ ⟨by decide, by decide⟩ (Nat.le_of_ble_eq_true rfl) dX4_isOf_14 (fun v F9 hp => ?_)
      obtain ⟨rfl, rfl⟩ := hp
      refine z_if_eq C 39 dX4_isOf_17 (by decide) (fun h17 => ?_) (fun h17 => ?_)
      · skip
        have h17 := bI_0 h17
        refine z_iconst C (v := 0) dX4_isOf_39 rfl ?_
        refine z_zret C0 rfl dX4_isOf_40 ?_
        refine ⟨?_, rfl⟩
        rw [hr, e7]
        simp only [ofN]
        rw [h17]
        rfl
      · skip
        have h17 := bI_1 h17
        refine z_iload_n C 2 dX4_isOf_20 rfl ?_
        refine z_iload_n C 1 dX4_isOf_21 rfl ?_
        refine z_icmp_ne C 27 dX4_isOf_22 (by decide) (fun h22 => ?_) (fun h22 => ?_)
        · skip
          obtain ⟨q, hq, eq⟩ := inR_of (n := 7) h17 (by omega)
          refine z_getsN C (fun H h => h.1.1.1) (fun u h => h.2.1) dX4_isOf_27 ?_
          refine z_iload_n C 2 dX4_isOf_30 rfl ?_
          refine z_tald C q (fun H h => h.1.1.2) eq hq (by decide) rfl dX4_isOf_31 ?_
          refine z_istore_n (i := 2) C dX4_isOf_32 rfl (by decide) ?_
          refine z_iinc C (v := nI (t + 1)) 3 dX4_isOf_33 rfl (nI_1 _) (by decide) ?_
          refine z_goto C 7 dX4_isOf_36 (by decide) ?_
          refine z_pick [2, 3, 1, 0] rfl ?_
          refine ih (t + 1) _ (by omega) (by omega) ?_
          rw [hr, e7]
          simp only [ofN]
          rw [if_pos h17, if_neg h22]
          rw [eq, abv, nI_clamp (by omega)]
        · skip
          refine z_iconst C (v := 1) dX4_isOf_25 rfl ?_
          refine z_zret C0 rfl dX4_isOf_26 ?_
          refine ⟨?_, rfl⟩
          rw [hr, e7]
          simp only [ofN]
          rw [if_pos h17, if_pos h22]
          rfl
set_option maxRecDepth 100000 in
set_option maxHeartbeats 4000000 in
theorem c_X4_isOf (l : Launch) (E : zE) (F : zF) {gi j : Nat} (hg : gi < 4) (hj : j < 6) (w : Int32) : XM l E yX4_isOf cX4_isOf 4 (some .boolean) 2 [.ref (xadr E.2.2.1 (6, gi, j)), .int (w)] (F) (fun v F2 => v = some (.int (bI (ofN 7 ((F.1 gi).1.2.1 j 0) w))) ∧ F2 = F) := by
  refine XM.mk kq_X4 (Nat.le_of_ble_eq_true rfl) (fun K s C0 => ?_)
  have C := C0.c
  refine z_aload_n C 0 dX4_isOf_0 rfl ?_
  refine xg_6 (k := 0) C (by first | assumption | omega) (by first | assumption | omega) (by decide) kf_X4_9 dX4_isOf_1 ?_
  refine z_istore_n (i := 2) C dX4_isOf_4 rfl (by decide) ?_
  refine z_iconst C (v := 0) dX4_isOf_5 rfl ?_
  refine z_istore_n (i := 3) C dX4_isOf_6 rfl (by decide) ?_
  refine z_pick [2, 3, 1, 0] rfl ?_
  exact lp_X4_isOf F hg hj w C0 8 0 _ (by omega) (by omega) rfl
set_option maxRecDepth 100000 in
set_option maxHeartbeats 4000000 in
theorem c_X4_saysAs (l : Launch) (E : zE) (F : zF) {gi j : Nat} (hg : gi < 4) (hj : j < 6) (w : Int32) : XM l E yX4_saysAs cX4_saysAs 2 (some .int) 2 [.ref (xadr E.2.2.1 (6, gi, j)), .int (w)] (F) (fun v F2 => v = some (.int (saysS ((F.1 gi).1.2.1 j) w)) ∧ F2 = F) := by
  refine XM.mk kq_X4 (Nat.le_of_ble_eq_true rfl) (fun K s C0 => ?_)
  have C := C0.c
  refine z_iload_n C 1 dX4_saysAs_0 rfl ?_
  refine z_case (0) (fun h1_0 => ?_) (fun h1_0 => ?_)
  · refine z_tabIn C (0) (39) 40 h1_0 dX4_saysAs_1 (by decide) (by decide) ?_
    refine z_aload_n C 0 dX4_saysAs_40 rfl ?_
    refine xg_6 (k := 2) C (by first | assumption | omega) (by first | assumption | omega) (by decide) kf_X4_18 dX4_saysAs_41 ?_
    refine z_iret C0 dX4_saysAs_44 ?_
    refine ⟨?_, rfl⟩
    simp only [saysS]
    rw [if_pos h1_0]
  refine z_case (1) (fun h1_1 => ?_) (fun h1_1 => ?_)
  · refine z_tabIn C (1) (44) 45 h1_1 dX4_saysAs_1 (by decide) (by decide) ?_
    refine z_aload_n C 0 dX4_saysAs_45 rfl ?_
    refine z_callV0 C (c_X4_asksNow l E _ (by first | assumption | omega) (by first | assumption | omega)) ⟨(by first | assumption | omega), (by first | assumption | omega)⟩ rfl rfl q_X4_46 ⟨by decide, by decide⟩ (Nat.le_of_ble_eq_true rfl) dX4_saysAs_46 (fun v F9 hp => ?_)
    obtain ⟨rfl, rfl⟩ := hp
    refine z_aload_n C 0 dX4_saysAs_49 rfl ?_
    refine xg_6 (k := 2) C (by first | assumption | omega) (by first | assumption | omega) (by decide) kf_X4_18 dX4_saysAs_50 ?_
    refine z_isub C dX4_saysAs_53 ?_
    refine z_iret C0 dX4_saysAs_54 ?_
    refine ⟨?_, rfl⟩
    simp only [saysS]
    rw [if_neg h1_0, if_pos h1_1]
  refine z_case (2) (fun h1_2 => ?_) (fun h1_2 => ?_)
  · refine z_tabIn C (2) (54) 55 h1_2 dX4_saysAs_1 (by decide) (by decide) ?_
    refine z_aload_n C 0 dX4_saysAs_55 rfl ?_
    refine xg_6 (k := 4) C (by first | assumption | omega) (by first | assumption | omega) (by decide) kf_X4_24 dX4_saysAs_56 ?_
    refine z_iret C0 dX4_saysAs_59 ?_
    refine ⟨?_, rfl⟩
    simp only [saysS]
    rw [if_neg h1_0, if_neg h1_1, if_pos h1_2]
  refine z_case (3) (fun h1_3 => ?_) (fun h1_3 => ?_)
  · refine z_tabIn C (3) (44) 45 h1_3 dX4_saysAs_1 (by decide) (by decide) ?_
    refine z_aload_n C 0 dX4_saysAs_45 rfl ?_
    refine z_callV0 C (c_X4_asksNow l E _ (by first | assumption | omega) (by first | assumption | omega)) ⟨(by first | assumption | omega), (by first | assumption | omega)⟩ rfl rfl q_X4_46 ⟨by decide, by decide⟩ (Nat.le_of_ble_eq_true rfl) dX4_saysAs_46 (fun v F9 hp => ?_)
    obtain ⟨rfl, rfl⟩ := hp
    refine z_aload_n C 0 dX4_saysAs_49 rfl ?_
    refine xg_6 (k := 2) C (by first | assumption | omega) (by first | assumption | omega) (by decide) kf_X4_18 dX4_saysAs_50 ?_
    refine z_isub C dX4_saysAs_53 ?_
    refine z_iret C0 dX4_saysAs_54 ?_
    refine ⟨?_, rfl⟩
    simp only [saysS]
    rw [if_neg h1_0, if_neg h1_1, if_neg h1_2, if_pos h1_3]
  refine z_case (4) (fun h1_4 => ?_) (fun h1_4 => ?_)
  · refine z_tabIn C (4) (59) 60 h1_4 dX4_saysAs_1 (by decide) (by decide) ?_
    refine z_aload_n C 0 dX4_saysAs_60 rfl ?_
    refine z_callV0 C (c_X4_asksNow l E _ (by first | assumption | omega) (by first | assumption | omega)) ⟨(by first | assumption | omega), (by first | assumption | omega)⟩ rfl rfl q_X4_46 ⟨by decide, by decide⟩ (Nat.le_of_ble_eq_true rfl) dX4_saysAs_61 (fun v F9 hp => ?_)
    obtain ⟨rfl, rfl⟩ := hp
    refine z_iret C0 dX4_saysAs_64 ?_
    refine ⟨?_, rfl⟩
    simp only [saysS]
    rw [if_neg h1_0, if_neg h1_1, if_neg h1_2, if_neg h1_3, if_pos h1_4]
  refine z_case (5) (fun h1_5 => ?_) (fun h1_5 => ?_)
  · refine z_tabIn C (5) (54) 55 h1_5 dX4_saysAs_1 (by decide) (by decide) ?_
    refine z_aload_n C 0 dX4_saysAs_55 rfl ?_
    refine xg_6 (k := 4) C (by first | assumption | omega) (by first | assumption | omega) (by decide) kf_X4_24 dX4_saysAs_56 ?_
    refine z_iret C0 dX4_saysAs_59 ?_
    refine ⟨?_, rfl⟩
    simp only [saysS]
    rw [if_neg h1_0, if_neg h1_1, if_neg h1_2, if_neg h1_3, if_neg h1_4, if_pos h1_5]
  refine z_tabOut C 60 (by have q0 := lv_neT (a := (0)) h1_0 rfl; have q1 := lv_neT (a := (1)) h1_1 rfl; have q2 := lv_neT (a := (2)) h1_2 rfl; have q3 := lv_neT (a := (3)) h1_3 rfl; have q4 := lv_neT (a := (4)) h1_4 rfl; have q5 := lv_neT (a := (5)) h1_5 rfl; omega) dX4_saysAs_1 (by decide) ?_
  refine z_aload_n C 0 dX4_saysAs_60 rfl ?_
  refine z_callV0 C (c_X4_asksNow l E _ (by first | assumption | omega) (by first | assumption | omega)) ⟨(by first | assumption | omega), (by first | assumption | omega)⟩ rfl rfl q_X4_46 ⟨by decide, by decide⟩ (Nat.le_of_ble_eq_true rfl) dX4_saysAs_61 (fun v F9 hp => ?_)
  obtain ⟨rfl, rfl⟩ := hp
  refine z_iret C0 dX4_saysAs_64 ?_
  refine ⟨?_, rfl⟩
  simp only [saysS]
  rw [if_neg h1_0, if_neg h1_1, if_neg h1_2, if_neg h1_3, if_neg h1_4, if_neg h1_5]
