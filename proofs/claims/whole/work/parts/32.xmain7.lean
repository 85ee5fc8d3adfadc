/-! the class: its calls, the next -/
theorem i_aft {n : Int32} (h : ¬ n < 1) (h2 : n ≤ 240) : ∃ j, j ≤ 240 ∧ n = nI j := by
  have e1 : (1 : Int32).toInt = 1 := rfl
  rw [i_lt, e1] at h
  refine inT_of (n := 240) (inT_t (fun z => ?_) h2) (by omega)
  rw [i_lt] at z
  have e0 : (0 : Int32).toInt = 0 := rfl
  omega
theorem i_s17 {w : Int32} (h : ¬ w < 11) (h2 : ¬ 17 < w) : ∃ j, j < 8 ∧ w - 10 = nI j := by
  have e1 : (11 : Int32).toInt = 11 := rfl
  have e2 : (17 : Int32).toInt = 17 := rfl
  have e3 : (10 : Int32).toInt = 10 := rfl
  rw [i_lt, e1] at h
  rw [i_lt, e2] at h2
  have es : (w - 10).toInt = w.toInt - 10 := by rw [i_sub] <;> rw [e3] <;> omega
  exact ⟨(w.toInt - 10).toNat, by omega, i_nat (by rw [es]; omega)⟩
theorem inR9 {w : Int32} (h0 : ¬ w = 0) (h1 : ¬ w = 1) (h2 : ¬ w = 2) (h3 : ¬ w = 3) (h4 : ¬ w = 4) (h5 : ¬ w = 5) (h6 : ¬ w = 6) (h7 : ¬ w = 7) (h8 : ¬ w = 8) : ¬ inR w 9 = true := by
  intro h
  obtain ⟨j, hj, rfl⟩ := inR_of (n := 9) h (by omega)
  have hj2 : j = 0 ∨ j = 1 ∨ j = 2 ∨ j = 3 ∨ j = 4 ∨ j = 5 ∨ j = 6 ∨ j = 7 ∨ j = 8 := by omega
  rcases hj2 with rfl | rfl | rfl | rfl | rfl | rfl | rfl | rfl | rfl
  · exact h0 rfl
  · exact h1 rfl
  · exact h2 rfl
  · exact h3 rfl
  · exact h4 rfl
  · exact h5 rfl
  · exact h6 rfl
  · exact h7 rfl
  · exact h8 rfl
def aTrace (ran : Int32) (f : Nat → Int32) (i : Int32) : Int32 := if inR i 20 = true then (if i < ran then f i.toNatClampNeg else -1) else -1
def aStatus (g : zGc) (ran : Int32) (rf : Nat → Int32) (w : Int32) : Int32 := if inR w 9 = true then (if w = 8 then ran else g.1 w.toNatClampNeg) else if ¬ w < 11 ∧ ¬ 17 < w then rf (w - 10).toNatClampNeg else -1
def kSays (g : zGc) (h s k : Int32) : Int32 := if inR s 8 = false then -1 else if inR k 7 = false then -1 else if hRow h = true then -2 else if hShop h = false then -3 else if inR h (g.1 0) = false then -3 else if ofN 7 (g.2.1 h.toNatClampNeg 0) k = false then -2 else 0
def resS (F : zF) (j : Nat) : zF := if hShop (F.2.1 j 0) = true ∧ inR (F.2.1 j 0) ((F.1 0).1.1 0) = false then sV (sV F j 0 (-1)) j 1 0 else F
def resN (F : zF) : Nat → zF
  | 0 => F
  | j + 1 => resS (resN F j) j
theorem resN_1 {F : zF} : ∀ {j : Nat}, (resN F j).1 = F.1
  | 0 => rfl
  | j + 1 => by show (resS (resN F j) j).1 = F.1; unfold resS; split <;> exact resN_1
set_option maxRecDepth 100000 in
set_option maxHeartbeats 4000000 in
theorem c_X6_does (l : Launch) (E : zE) (F : zF) (hI : XI F) (a d : Int32) : XM l E yX6_does cX6_does 3 (some .int) 5 [.ref (xadr E.2.2.1 (0, 0, 0)), .int (a), .int (d)] (F) (xpo F (kDoes (F.1 0).1 a d) 1 (fun F2 => F2 = sG F 0 (perf (F.1 0) a.toNatClampNeg d))) := by
  refine XM.mk kq_X6 (Nat.le_of_ble_eq_true rfl) (fun K s C0 => ?_)
  have C := C0.c
  obtain ⟨hz, hw, hsh⟩ := id hI
  obtain ⟨⟨eS, lS⟩, ⟨eC, lC⟩⟩ := id hz
  refine z_aload_n C 0 dX6_does_0 rfl ?_
  refine z_iload_n C 1 dX6_does_1 rfl ?_
  refine z_callV1 C (c_X6_isChild l E _ _) ⟨by decide, rfl, rfl⟩ rfl rfl q_X6_149 ⟨by decide, by decide⟩ (Nat.le_of_ble_eq_true rfl) dX6_does_2 (fun v F9 hp => ?_)
  obtain ⟨rfl, e9⟩ := hp
  rw [e9]
  clear e9 F9
  refine z_if_ne C 14 dX6_does_5 (by decide) (fun h5 => ?_) (fun h5 => ?_)
  · skip
    have h5 := bI_1 h5
    obtain ⟨c, hc, rfl⟩ := inR_of (n := nC (F.1 0).1) (by rw [← eC]; exact h5) (by omega)
    have hc6 : c < 6 := by omega
    refine z_aload_n C 0 dX6_does_14 rfl ?_
    refine xg_0_2 C kf_X6_22 dX6_does_15 ?_
    refine z_iload_n C 1 dX6_does_18 rfl ?_
    refine z_iload_n C 2 dX6_does_19 rfl ?_
    refine z_callV2 C (cg_X1_can l E _ (by decide) hz (by first | assumption | omega) _) ⟨(by decide), rfl⟩ rfl rfl q_X6_196 ⟨by decide, by decide⟩ (Nat.le_of_ble_eq_true rfl) dX6_does_20 (fun v F9 hp => ?_)
    obtain ⟨rfl, e9⟩ := hp
    rw [e9]
    clear e9 F9
    refine z_if_ne C 33 dX6_does_23 (by decide) (fun h23 => ?_) (fun h23 => ?_)
    · skip
      have h23 := bI_1 h23
      have hdd := can_dd hz h23
      refine z_aload_n C 0 dX6_does_33 rfl ?_
      refine xg_0_2 C kf_X6_22 dX6_does_34 ?_
      refine z_iload_n C 1 dX6_does_37 rfl ?_
      refine z_iload_n C 2 dX6_does_38 rfl ?_
      refine z_callV2 C (cg_X1_perform l E _ (gi := 0) (by decide) hz hc hdd) ⟨(by decide), rfl⟩ rfl rfl q_X6_245 ⟨by decide, by decide⟩ (Nat.le_of_ble_eq_true rfl) dX6_does_39 (fun v F9 hp => ?_)
      obtain ⟨rfl, e9⟩ := hp
      rw [e9]
      clear e9 F9
      refine z_iconst C (v := 1) dX6_does_42 rfl ?_
      refine z_iret C0 dX6_does_43 ?_
      exact xpo.ok (by simp [kDoes, nI_clamp (show c < 2 ^ 31 by omega), h5, h23]) rfl (by rw [nI_clamp (by omega)])
    · skip
      have h23 := bI_0 h23
      refine z_aload_n C 0 dX6_does_26 rfl ?_
      refine z_bipush C (v := (-6)) dX6_does_27 rfl ?_
      refine z_callV1 C (c_X6_refuse l E _ _) ⟨by decide, rfl, rfl⟩ rfl rfl q_X6_51 ⟨by decide, by decide⟩ (Nat.le_of_ble_eq_true rfl) dX6_does_29 (fun v F9 hp => ?_)
      obtain ⟨rfl, e9⟩ := hp
      rw [e9]
      clear e9 F9
      refine z_iret C0 dX6_does_32 ?_
      exact xpo.ref (by simp [kDoes, nI_clamp (show c < 2 ^ 31 by omega), h5, h23]) (by decide)
  · skip
    have h5 := bI_0 h5
    refine z_aload_n C 0 dX6_does_8 rfl ?_
    refine z_iconst C (v := (-1)) dX6_does_9 rfl ?_
    refine z_callV1 C (c_X6_refuse l E _ _) ⟨by decide, rfl, rfl⟩ rfl rfl q_X6_51 ⟨by decide, by decide⟩ (Nat.le_of_ble_eq_true rfl) dX6_does_10 (fun v F9 hp => ?_)
    obtain ⟨rfl, e9⟩ := hp
    rw [e9]
    clear e9 F9
    refine z_iret C0 dX6_does_13 ?_
    exact xpo.ref (by simp [kDoes, h5]) (by decide)
set_option maxRecDepth 100000 in
set_option maxHeartbeats 4000000 in
theorem c_X6_minute (l : Launch) (E : zE) (F : zF) (hI : XI F) (rule : Int32) : XM l E yX6_minute cX6_minute 2 (some .int) 6 [.ref (xadr E.2.2.1 (0, 0, 0)), .int (rule)] (F) (xpo F (kRule rule) ((minutes rule 1 (F.1 0)).1.1 2) (fun F2 => F2 = sG F 0 (minutes rule 1 (F.1 0)))) := by
  refine XM.mk kq_X6 (Nat.le_of_ble_eq_true rfl) (fun K s C0 => ?_)
  have C := C0.c
  obtain ⟨hz, hw, hsh⟩ := id hI
  obtain ⟨⟨eS, lS⟩, ⟨eC, lC⟩⟩ := id hz
  refine z_iload_n C 1 dX6_minute_0 rfl ?_
  refine z_callS1 C (c_X6_isRule l E _ _) q_X6_199 ⟨by decide, by decide⟩ (Nat.le_of_ble_eq_true rfl) dX6_minute_1 (fun v F9 hp => ?_)
  obtain ⟨rfl, e9⟩ := hp
  rw [e9]
  clear e9 F9
  refine z_if_ne C 14 dX6_minute_4 (by decide) (fun h4 => ?_) (fun h4 => ?_)
  · skip
    have h4 := bI_1 h4
    refine z_aload_n C 0 dX6_minute_14 rfl ?_
    refine xg_0_2 C kf_X6_22 dX6_minute_15 ?_
    refine z_iload_n C 1 dX6_minute_18 rfl ?_
    refine z_iconst C (v := 1) dX6_minute_19 rfl ?_
    refine z_top (nI 1) (rfl) ?_
    refine z_callV2 C (cg_X1_passMinutes l E F (gi := 0) (by decide) hz hw (by omega)) ⟨(by decide), rfl⟩ rfl rfl q_X6_222 ⟨by decide, by decide⟩ (Nat.le_of_ble_eq_true rfl) dX6_minute_20 (fun v F9 hp => ?_)
    obtain ⟨rfl, e9⟩ := hp
    rw [e9]
    clear e9 F9
    refine z_aload_n C 0 dX6_minute_23 rfl ?_
    refine xg_0_2 C kf_X6_22 dX6_minute_24 ?_
    refine xg_3 (k := 2) C (by decide) (by decide) kf_X6_254 dX6_minute_27 ?_
    refine z_iret C0 dX6_minute_30 ?_
    exact xpo.ok (by simp [kRule, h4]) (rfl) (rfl)
  · skip
    have h4 := bI_0 h4
    refine z_aload_n C 0 dX6_minute_7 rfl ?_
    refine z_bipush C (v := (-6)) dX6_minute_8 rfl ?_
    refine z_callV1 C (c_X6_refuse l E _ _) ⟨by decide, rfl, rfl⟩ rfl rfl q_X6_51 ⟨by decide, by decide⟩ (Nat.le_of_ble_eq_true rfl) dX6_minute_10 (fun v F9 hp => ?_)
    obtain ⟨rfl, e9⟩ := hp
    rw [e9]
    clear e9 F9
    refine z_iret C0 dX6_minute_13 ?_
    exact xpo.ref (by simp [kRule, h4]) (by decide)
set_option maxRecDepth 100000 in
set_option maxHeartbeats 4000000 in
theorem c_X6_night (l : Launch) (E : zE) (F : zF) (hI : XI F) : XM l E yX6_night cX6_night 1 (some .int) 2 [.ref (xadr E.2.2.1 (0, 0, 0))] (F) (fun v F2 => v = some (.int (nightL (F.1 0).1)) ∧ F2 = sG F 0 (nightG (F.1 0).1, (F.1 0).2)) := by
  refine XM.mk kq_X6 (Nat.le_of_ble_eq_true rfl) (fun K s C0 => ?_)
  have C := C0.c
  obtain ⟨hz, hw, hsh⟩ := id hI
  obtain ⟨⟨eS, lS⟩, ⟨eC, lC⟩⟩ := id hz
  refine z_aload_n C 0 dX6_night_0 rfl ?_
  refine xg_0_2 C kf_X6_22 dX6_night_1 ?_
  refine z_callV0 C (cg_X1_passNight l E F (gi := 0) (by decide) hz) ⟨(by decide), rfl⟩ rfl rfl q_X6_242 ⟨by decide, by decide⟩ (Nat.le_of_ble_eq_true rfl) dX6_night_4 (fun v F9 hp => ?_)
  obtain ⟨rfl, e9⟩ := hp
  rw [e9]
  clear e9 F9
  refine z_iret C0 dX6_night_7 ?_
  exact ⟨rfl, rfl⟩
set_option maxRecDepth 100000 in
set_option maxHeartbeats 4000000 in
theorem c_X6_afternoon (l : Launch) (E : zE) (F : zF) (hI : XI F) (n : Int32) : XM l E yX6_afternoon cX6_afternoon 3 (some .int) 7 [.ref (xadr E.2.2.1 (0, 0, 0)), .int (n)] (F) (xpo F (kAft n) ((minsD n.toNatClampNeg (F.1 0)).1.1 6 - (F.1 0).1.1 6) (fun F2 => F2 = sG F 0 (minsD n.toNatClampNeg (F.1 0)))) := by
  refine XM.mk kq_X6 (Nat.le_of_ble_eq_true rfl) (fun K s C0 => ?_)
  have C := C0.c
  obtain ⟨hz, hw, hsh⟩ := id hI
  obtain ⟨⟨eS, lS⟩, ⟨eC, lC⟩⟩ := id hz
  refine z_iload_n C 1 dX6_afternoon_0 rfl ?_
  refine z_iconst C (v := 1) dX6_afternoon_1 rfl ?_
  refine z_icmp_lt C 12 dX6_afternoon_2 (by decide) (fun h2 => ?_) (fun h2 => ?_)
  · skip
    refine z_aload_n C 0 dX6_afternoon_12 rfl ?_
    refine z_bipush C (v := (-6)) dX6_afternoon_13 rfl ?_
    refine z_callV1 C (c_X6_refuse l E _ _) ⟨by decide, rfl, rfl⟩ rfl rfl q_X6_51 ⟨by decide, by decide⟩ (Nat.le_of_ble_eq_true rfl) dX6_afternoon_15 (fun v F9 hp => ?_)
    obtain ⟨rfl, e9⟩ := hp
    rw [e9]
    clear e9 F9
    refine z_iret C0 dX6_afternoon_18 ?_
    exact xpo.ref (by simp [kAft, h2, Int32.not_le.mpr h2]) (by decide)
  · skip
    refine z_iload_n C 1 dX6_afternoon_5 rfl ?_
    refine z_sipush C (v := 240) dX6_afternoon_6 rfl ?_
    refine z_icmp_le C 19 dX6_afternoon_9 (by decide) (fun h9 => ?_) (fun h9 => ?_)
    · skip
      obtain ⟨nn, hnn, rfl⟩ := i_aft h2 h9
      refine z_aload_n C 0 dX6_afternoon_19 rfl ?_
      refine xg_0_2 C kf_X6_22 dX6_afternoon_20 ?_
      refine xg_3 (k := 6) C (by decide) (by decide) kf_X6_225 dX6_afternoon_23 ?_
      refine z_istore_n (i := 2) C dX6_afternoon_26 rfl (by decide) ?_
      refine z_aload_n C 1 dX6_afternoon_27 rfl ?_
      refine xg_0_2 C kf_X6_22 dX6_afternoon_28 ?_
      refine z_iload_n C 2 dX6_afternoon_31 rfl ?_
      refine z_callV1 C (cg_X1_passDrawnMinutes l E F (gi := 0) (by decide) hz hw (by first | assumption | omega)) ⟨(by decide), rfl⟩ rfl rfl q_X6_257 ⟨by decide, by decide⟩ (Nat.le_of_ble_eq_true rfl) dX6_afternoon_32 (fun v F9 hp => ?_)
      obtain ⟨rfl, e9⟩ := hp
      rw [e9]
      clear e9 F9
      refine z_aload_n C 1 dX6_afternoon_35 rfl ?_
      refine xg_0_2 C kf_X6_22 dX6_afternoon_36 ?_
      refine xg_3 (k := 6) C (by decide) (by decide) kf_X6_225 dX6_afternoon_39 ?_
      refine z_iload_n C 0 dX6_afternoon_42 rfl ?_
      refine z_isub C dX6_afternoon_43 ?_
      refine z_iret C0 dX6_afternoon_44 ?_
      exact xpo.ok (by simp [kAft, h2, Int32.not_lt.mp h2, h9, Int32.not_lt.mpr h9]) (by rw [nI_clamp (by omega)]; rfl) (by rw [nI_clamp (by omega)])
    · skip
      refine z_aload_n C 0 dX6_afternoon_12 rfl ?_
      refine z_bipush C (v := (-6)) dX6_afternoon_13 rfl ?_
      refine z_callV1 C (c_X6_refuse l E _ _) ⟨by decide, rfl, rfl⟩ rfl rfl q_X6_51 ⟨by decide, by decide⟩ (Nat.le_of_ble_eq_true rfl) dX6_afternoon_15 (fun v F9 hp => ?_)
      obtain ⟨rfl, e9⟩ := hp
      rw [e9]
      clear e9 F9
      refine z_iret C0 dX6_afternoon_18 ?_
      exact xpo.ref (by simp [kAft, h2, Int32.not_lt.mp h2, h9, Int32.not_le.mp h9]) (by decide)
set_option maxRecDepth 100000 in
set_option maxHeartbeats 4000000 in
theorem c_X6_seed (l : Launch) (E : zE) (F : zF) (hI : XI F) (x : Int32) : XM l E yX6_seed cX6_seed 3 (some .int) 1 [.ref (xadr E.2.2.1 (0, 0, 0)), .int (x)] (F) (fun v F2 => v = some (.int ((F.1 0).1.1 7)) ∧ F2 = sG F 0 (fSc (F.1 0) 7 x)) := by
  refine XM.mk kq_X6 (Nat.le_of_ble_eq_true rfl) (fun K s C0 => ?_)
  have C := C0.c
  refine z_aload_n C 0 dX6_seed_0 rfl ?_
  refine xg_0_2 C kf_X6_22 dX6_seed_1 ?_
  refine xg_3 (k := 7) C (by decide) (by decide) kf_X6_260 dX6_seed_4 ?_
  refine z_istore_n (i := 2) C dX6_seed_7 rfl (by decide) ?_
  refine z_aload_n C 1 dX6_seed_8 rfl ?_
  refine xg_0_2 C kf_X6_22 dX6_seed_9 ?_
  refine z_iload_n C 2 dX6_seed_12 rfl ?_
  refine xp_3 (k := 7) C (by decide) (by decide) kf_X6_260 dX6_seed_13 ?_
  refine z_iload_n C 0 dX6_seed_16 rfl ?_
  refine z_iret C0 dX6_seed_17 ?_
  exact ⟨rfl, rfl⟩
set_option maxRecDepth 100000 in
set_option maxHeartbeats 4000000 in
theorem c_X6_fault (l : Launch) (E : zE) (F : zF) : XM l E yX6_fault cX6_fault 1 (some .int) 1 [.ref (xadr E.2.2.1 (0, 0, 0))] (F) (fun v F2 => v = some (.int (F.2.2.2 1 2)) ∧ F2 = F) := by
  refine XM.mk kq_X6 (Nat.le_of_ble_eq_true rfl) (fun K s C0 => ?_)
  have C := C0.c
  refine z_aload_n C 0 dX6_fault_0 rfl ?_
  refine xg_0_5 C kf_X6_35 dX6_fault_1 ?_
  refine xg_8 (k := 2) C (by decide) kf_X6_186 dX6_fault_4 ?_
  refine z_iret C0 dX6_fault_7 ?_
  exact ⟨rfl, rfl⟩
set_option maxRecDepth 100000 in
set_option maxHeartbeats 4000000 in
theorem c_X6_trace (l : Launch) (E : zE) (F : zF) (i : Int32) : XM l E yX6_trace cX6_trace 2 (some .int) 1 [.ref (xadr E.2.2.1 (0, 0, 0)), .int (i)] (F) (fun v F2 => v = some (.int (aTrace (F.2.2.2 3 0) (F.2.2.2 4) i)) ∧ F2 = F) := by
  refine XM.mk kq_X6 (Nat.le_of_ble_eq_true rfl) (fun K s C0 => ?_)
  have C := C0.c
  refine z_iload_n C 1 dX6_trace_0 rfl ?_
  refine z_if_lt C 21 dX6_trace_1 (by decide) (fun h1 => ?_) (fun h1 => ?_)
  · skip
    refine z_iconst C (v := (-1)) dX6_trace_21 rfl ?_
    refine z_iret C0 dX6_trace_22 ?_
    refine ⟨?_, rfl⟩
    unfold aTrace
    rw [inR_f1 h1, if_neg (by decide)]
  · skip
    refine z_iload_n C 1 dX6_trace_4 rfl ?_
    refine z_bipush C (v := 20) dX6_trace_5 rfl ?_
    refine z_icmp_ge C 21 dX6_trace_7 (by decide) (fun h7 => ?_) (fun h7 => ?_)
    · skip
      refine z_iconst C (v := (-1)) dX6_trace_21 rfl ?_
      refine z_iret C0 dX6_trace_22 ?_
      refine ⟨?_, rfl⟩
      unfold aTrace
      rw [inR_f2 h7, if_neg (by decide)]
    · skip
      refine z_iload_n C 1 dX6_trace_10 rfl ?_
      refine z_aload_n C 0 dX6_trace_11 rfl ?_
      refine xg_0_6 C kf_X6_42 dX6_trace_12 ?_
      refine xg_10 (k := 0) C (by decide) kf_X6_263 dX6_trace_15 ?_
      refine z_icmp_lt C 23 dX6_trace_18 (by decide) (fun h18 => ?_) (fun h18 => ?_)
      · skip
        obtain ⟨q, hq, eq⟩ := i_rng (n := 20) h1 (Int32.not_le.mp h7) (by omega)
        refine z_aload_n C 0 dX6_trace_23 rfl ?_
        refine xg_0_6 C kf_X6_42 dX6_trace_24 ?_
        refine xg_10b C kf_X6_277 dX6_trace_27 ?_
        refine z_iload_n C 1 dX6_trace_30 rfl ?_
        refine xl_11 C q eq hq dX6_trace_31 ?_
        refine z_iret C0 dX6_trace_32 ?_
        refine ⟨?_, rfl⟩
        unfold aTrace
        rw [if_pos (inR_t h1 (Int32.not_le.mp h7)), if_pos h18, eq, nI_clamp (by omega)]
      · skip
        refine z_iconst C (v := (-1)) dX6_trace_21 rfl ?_
        refine z_iret C0 dX6_trace_22 ?_
        refine ⟨?_, rfl⟩
        unfold aTrace
        rw [if_pos (inR_t h1 (Int32.not_le.mp h7)), if_neg h18]
set_option maxRecDepth 100000 in
set_option maxHeartbeats 4000000 in
theorem c_X6_image (l : Launch) (E : zE) (F : zF) (hI : XI F) : XM l E yX6_image cX6_image 1 (some .int) 3 [.ref (xadr E.2.2.1 (0, 0, 0))] (F) (fun v F2 => v = some (.int ((F.1 0).1.1 0)) ∧ F2 = sM (sG F 2 (layG (F.1 0).1 (F.1 2).1, (F.1 2).2)) 5 0 1) := by
  refine XM.mk kq_X6 (Nat.le_of_ble_eq_true rfl) (fun K s C0 => ?_)
  have C := C0.c
  obtain ⟨hz, hw, hsh⟩ := id hI
  obtain ⟨⟨eS, lS⟩, ⟨eC, lC⟩⟩ := id hz
  refine z_aload_n C 0 dX6_image_0 rfl ?_
  refine xg_0_4 C kf_X6_29 dX6_image_1 ?_
  refine z_aload_n C 0 dX6_image_4 rfl ?_
  refine xg_0_2 C kf_X6_22 dX6_image_5 ?_
  refine z_callV1 C (cg_X1_takeAll l E F (gi := 2) (by decide) (gj := 0) (by decide) (by decide) hz) ⟨(by decide), rfl⟩ rfl rfl q_X6_192 ⟨by decide, by decide⟩ (Nat.le_of_ble_eq_true rfl) dX6_image_8 (fun v F9 hp => ?_)
  obtain ⟨rfl, e9⟩ := hp
  rw [e9]
  clear e9 F9
  refine z_aload_n C 0 dX6_image_11 rfl ?_
  refine z_iconst C (v := 1) dX6_image_12 rfl ?_
  refine xp_0_7 C ⟨rfl, rfl⟩ kf_X6_280 dX6_image_13 ?_
  refine z_aload_n C 0 dX6_image_16 rfl ?_
  refine xg_0_2 C kf_X6_22 dX6_image_17 ?_
  refine xg_3 (k := 0) C (by decide) (by decide) kf_X6_116 dX6_image_20 ?_
  refine z_iret C0 dX6_image_23 ?_
  exact ⟨rfl, rfl⟩
set_option maxRecDepth 100000 in
set_option maxHeartbeats 4000000 in
theorem lp_X6_restore {l : Launch} {E : zE} {K : zK} {s : State} (F : zF) (hI : XI F) (hK : ¬ F.2.2.2 5 0 = 0 → gz (F.1 2).1) (h4 : ¬ F.2.2.2 5 0 = 0) (C0 : XR l E K cX6_restore RX6 4 s 2 (some .int) (xpo F (if F.2.2.2 5 0 = 0 then -6 else 0) ((F.1 2).1.1 0) (fun F2 => F2 = resN (sG F 0 (layG (F.1 2).1 (F.1 0).1, (F.1 0).2)) 8))) : ∀ (n2 : Nat) (j : Nat), (8 - j < n2) → (j ≤ 8) → Z K (XP E (resN (sG F 0 (layG (F.1 2).1 (F.1 0).1, (F.1 0).2)) j) s) 27 [(0, .ref (xadr E.2.2.1 (0, 0, 0))), (1, .int (nI j))] [] := by
  have C := C0.c
  intro n2
  induction n2 with
  | zero => intro j hk hkl; exact absurd hk (Nat.not_lt_zero _)
  | succ n2 ih =>
    intro j hk hkl
    refine z_iload_n C 1 dX6_restore_27 rfl ?_
    refine z_bipush C (v := 8) dX6_restore_28 rfl ?_
    refine z_icmp_ge C 77 dX6_restore_30 (by decide) (fun h30 => ?_) (fun h30 => ?_)
    · skip
      refine z_aload_n C 0 dX6_restore_77 rfl ?_
      refine xg_0_2 C kf_X6_22 dX6_restore_78 ?_
      refine xg_3 (k := 0) C (by decide) (by decide) kf_X6_116 dX6_restore_81 ?_
      refine z_iret C0 dX6_restore_84 ?_
      have e : j = 8 := by
        rcases Nat.lt_or_ge j (8) with q | q
        · exact absurd h30 (nI_ge (b := 8) q (by omega))
        · omega
      subst e
      exact xpo.ok (by rw [if_neg h4]) (by rw [resN_1]; exact (lay_eqv (F.1 2).1 (F.1 0).1).1 0 (by omega)) rfl
    · skip
      have hj : j < 8 := by
        rcases Nat.lt_or_ge j (8) with q | q
        · exact q
        · exact absurd (nI_le (a := 8) q (by omega)) h30
      refine z_aload_n C 0 dX6_restore_33 rfl ?_
      refine xg_0_0 C kf_X6_11 dX6_restore_34 ?_
      refine z_iload_n C 1 dX6_restore_37 rfl ?_
      refine xa_1 C j rfl (by first | assumption | omega) dX6_restore_38 ?_
      refine z_callV0 C (c_X3_hasShop l E _ (by first | assumption | omega)) ⟨(by first | assumption | omega), rfl⟩ rfl rfl q_X6_70 ⟨by decide, by decide⟩ (Nat.le_of_ble_eq_true rfl) dX6_restore_39 (fun v F9 hp => ?_)
      obtain ⟨rfl, e9⟩ := hp
      rw [e9]
      clear e9 F9
      refine z_if_eq C 71 dX6_restore_42 (by decide) (fun h42 => ?_) (fun h42 => ?_)
      · skip
        have h42 := bI_0 h42
        refine z_iinc C (v := nI (j + 1)) 1 dX6_restore_71 rfl (nI_1 _) (by decide) ?_
        refine z_goto C 27 dX6_restore_74 (by decide) ?_
        refine z_pick [1, 0] rfl ?_
        have q := ih (j + 1) (by omega) (by omega)
        simp only [resN, resS] at q
        rw [if_neg (fun z => absurd (h42.symm.trans z.1) (by decide))] at q
        exact q
      · skip
        have h42 := bI_1 h42
        refine z_aload_n C 0 dX6_restore_45 rfl ?_
        refine z_aload_n C 0 dX6_restore_46 rfl ?_
        refine xg_0_0 C kf_X6_11 dX6_restore_47 ?_
        refine z_iload_n C 1 dX6_restore_50 rfl ?_
        refine xa_1 C j rfl (by first | assumption | omega) dX6_restore_51 ?_
        refine xg_12 (k := 0) C (by first | assumption | omega) (by decide) kf_X6_77 dX6_restore_52 ?_
        refine z_callV1 C (c_X6_isShop l E _ _) ⟨by decide, rfl, rfl⟩ rfl rfl q_X6_94 ⟨by decide, by decide⟩ (Nat.le_of_ble_eq_true rfl) dX6_restore_55 (fun v F9 hp => ?_)
        obtain ⟨rfl, e9⟩ := hp
        rw [e9]
        clear e9 F9
        refine z_if_ne C 71 dX6_restore_58 (by decide) (fun h58 => ?_) (fun h58 => ?_)
        · skip
          have h58 := bI_1 h58
          refine z_iinc C (v := nI (j + 1)) 1 dX6_restore_71 rfl (nI_1 _) (by decide) ?_
          refine z_goto C 27 dX6_restore_74 (by decide) ?_
          refine z_pick [1, 0] rfl ?_
          have q := ih (j + 1) (by omega) (by omega)
          simp only [resN, resS] at q
          rw [if_neg (fun z => absurd (h58.symm.trans z.2) (by decide))] at q
          exact q
        · skip
          have h58 := bI_0 h58
          refine z_aload_n C 0 dX6_restore_61 rfl ?_
          refine xg_0_0 C kf_X6_11 dX6_restore_62 ?_
          refine z_iload_n C 1 dX6_restore_65 rfl ?_
          refine xa_1 C j rfl (by first | assumption | omega) dX6_restore_66 ?_
          refine z_iconst C (v := (-1)) dX6_restore_67 rfl ?_
          refine z_callV1 C (c_X3_hold l E _ (by first | assumption | omega) _) ⟨(by first | assumption | omega), rfl⟩ rfl rfl q_X6_97 ⟨by decide, by decide⟩ (Nat.le_of_ble_eq_true rfl) dX6_restore_68 (fun v F9 hp => ?_)
          obtain ⟨rfl, e9⟩ := hp
          rw [e9]
          clear e9 F9
          refine z_iinc C (v := nI (j + 1)) 1 dX6_restore_71 rfl (nI_1 _) (by decide) ?_
          refine z_goto C 27 dX6_restore_74 (by decide) ?_
          refine z_pick [1, 0] rfl ?_
          have q := ih (j + 1) (by omega) (by omega)
          simp only [resN, resS] at q
          rw [if_pos ⟨h42, h58⟩] at q
          exact q
set_option maxRecDepth 100000 in
set_option maxHeartbeats 4000000 in
theorem c_X6_restore (l : Launch) (E : zE) (F : zF) (hI : XI F) (hK : ¬ F.2.2.2 5 0 = 0 → gz (F.1 2).1) : XM l E yX6_restore cX6_restore 2 (some .int) 4 [.ref (xadr E.2.2.1 (0, 0, 0))] (F) (xpo F (if F.2.2.2 5 0 = 0 then -6 else 0) ((F.1 2).1.1 0) (fun F2 => F2 = resN (sG F 0 (layG (F.1 2).1 (F.1 0).1, (F.1 0).2)) 8)) := by
  refine XM.mk kq_X6 (Nat.le_of_ble_eq_true rfl) (fun K s C0 => ?_)
  have C := C0.c
  obtain ⟨hz, hw, hsh⟩ := id hI
  obtain ⟨⟨eS, lS⟩, ⟨eC, lC⟩⟩ := id hz
  refine z_aload_n C 0 dX6_restore_0 rfl ?_
  refine xg_0_7 C kf_X6_280 dX6_restore_1 ?_
  refine z_if_ne C 14 dX6_restore_4 (by decide) (fun h4 => ?_) (fun h4 => ?_)
  · skip
    refine z_aload_n C 0 dX6_restore_14 rfl ?_
    refine xg_0_2 C kf_X6_22 dX6_restore_15 ?_
    refine z_aload_n C 0 dX6_restore_18 rfl ?_
    refine xg_0_4 C kf_X6_29 dX6_restore_19 ?_
    refine z_callV1 C (cg_X1_takeAll l E F (gi := 0) (by decide) (gj := 2) (by decide) (by decide) (hK h4)) ⟨(by decide), rfl⟩ rfl rfl q_X6_192 ⟨by decide, by decide⟩ (Nat.le_of_ble_eq_true rfl) dX6_restore_22 (fun v F9 hp => ?_)
    obtain ⟨rfl, e9⟩ := hp
    rw [e9]
    clear e9 F9
    refine z_iconst C (v := 0) dX6_restore_25 rfl ?_
    refine z_istore_n (i := 1) C dX6_restore_26 rfl (by decide) ?_
    refine z_pick [1, 0] rfl ?_
    exact lp_X6_restore F hI hK h4 C0 9 0 (by omega) (by omega)
  · skip
    refine z_aload_n C 0 dX6_restore_7 rfl ?_
    refine z_bipush C (v := (-6)) dX6_restore_8 rfl ?_
    refine z_callV1 C (c_X6_refuse l E _ _) ⟨by decide, rfl, rfl⟩ rfl rfl q_X6_51 ⟨by decide, by decide⟩ (Nat.le_of_ble_eq_true rfl) dX6_restore_10 (fun v F9 hp => ?_)
    obtain ⟨rfl, e9⟩ := hp
    rw [e9]
    clear e9 F9
    refine z_iret C0 dX6_restore_13 ?_
    exact xpo.ref (by rw [if_pos h4]) (by decide)
set_option maxRecDepth 100000 in
set_option maxHeartbeats 4000000 in
theorem c_X6_status (l : Launch) (E : zE) (F : zF) (w : Int32) : XM l E yX6_status cX6_status 2 (some .int) 1 [.ref (xadr E.2.2.1 (0, 0, 0)), .int (w)] (F) (fun v F2 => v = some (.int (aStatus (F.1 0).1 (F.2.2.2 3 0) (F.2.2.2 0) w)) ∧ F2 = F) := by
  refine XM.mk kq_X6 (Nat.le_of_ble_eq_true rfl) (fun K s C0 => ?_)
  have C := C0.c
  refine z_iload_n C 1 dX6_status_0 rfl ?_
  refine z_case (0) (fun h1_0 => ?_) (fun h1_0 => ?_)
  · refine z_tabIn C (0) (51) 52 h1_0 dX6_status_1 (by decide) (by decide) ?_
    refine z_aload_n C 0 dX6_status_52 rfl ?_
    refine xg_0_2 C kf_X6_22 dX6_status_53 ?_
    refine xg_3 (k := 0) C (by decide) (by decide) kf_X6_116 dX6_status_56 ?_
    refine z_iret C0 dX6_status_59 ?_
    refine ⟨?_, rfl⟩
    subst h1_0
    rfl
  refine z_case (1) (fun h1_1 => ?_) (fun h1_1 => ?_)
  · refine z_tabIn C (1) (59) 60 h1_1 dX6_status_1 (by decide) (by decide) ?_
    refine z_aload_n C 0 dX6_status_60 rfl ?_
    refine xg_0_2 C kf_X6_22 dX6_status_61 ?_
    refine xg_3 (k := 1) C (by decide) (by decide) kf_X6_123 dX6_status_64 ?_
    refine z_iret C0 dX6_status_67 ?_
    refine ⟨?_, rfl⟩
    subst h1_1
    rfl
  refine z_case (2) (fun h1_2 => ?_) (fun h1_2 => ?_)
  · refine z_tabIn C (2) (67) 68 h1_2 dX6_status_1 (by decide) (by decide) ?_
    refine z_aload_n C 0 dX6_status_68 rfl ?_
    refine xg_0_2 C kf_X6_22 dX6_status_69 ?_
    refine xg_3 (k := 2) C (by decide) (by decide) kf_X6_254 dX6_status_72 ?_
    refine z_iret C0 dX6_status_75 ?_
    refine ⟨?_, rfl⟩
    subst h1_2
    rfl
  refine z_case (3) (fun h1_3 => ?_) (fun h1_3 => ?_)
  · refine z_tabIn C (3) (75) 76 h1_3 dX6_status_1 (by decide) (by decide) ?_
    refine z_aload_n C 0 dX6_status_76 rfl ?_
    refine xg_0_2 C kf_X6_22 dX6_status_77 ?_
    refine xg_3 (k := 3) C (by decide) (by decide) kf_X6_208 dX6_status_80 ?_
    refine z_iret C0 dX6_status_83 ?_
    refine ⟨?_, rfl⟩
    subst h1_3
    rfl
  refine z_case (4) (fun h1_4 => ?_) (fun h1_4 => ?_)
  · refine z_tabIn C (4) (83) 84 h1_4 dX6_status_1 (by decide) (by decide) ?_
    refine z_aload_n C 0 dX6_status_84 rfl ?_
    refine xg_0_2 C kf_X6_22 dX6_status_85 ?_
    refine xg_3 (k := 4) C (by decide) (by decide) kf_X6_176 dX6_status_88 ?_
    refine z_iret C0 dX6_status_91 ?_
    refine ⟨?_, rfl⟩
    subst h1_4
    rfl
  refine z_case (5) (fun h1_5 => ?_) (fun h1_5 => ?_)
  · refine z_tabIn C (5) (91) 92 h1_5 dX6_status_1 (by decide) (by decide) ?_
    refine z_aload_n C 0 dX6_status_92 rfl ?_
    refine xg_0_2 C kf_X6_22 dX6_status_93 ?_
    refine xg_3 (k := 5) C (by decide) (by decide) kf_X6_179 dX6_status_96 ?_
    refine z_iret C0 dX6_status_99 ?_
    refine ⟨?_, rfl⟩
    subst h1_5
    rfl
  refine z_case (6) (fun h1_6 => ?_) (fun h1_6 => ?_)
  · refine z_tabIn C (6) (99) 100 h1_6 dX6_status_1 (by decide) (by decide) ?_
    refine z_aload_n C 0 dX6_status_100 rfl ?_
    refine xg_0_2 C kf_X6_22 dX6_status_101 ?_
    refine xg_3 (k := 6) C (by decide) (by decide) kf_X6_225 dX6_status_104 ?_
    refine z_iret C0 dX6_status_107 ?_
    refine ⟨?_, rfl⟩
    subst h1_6
    rfl
  refine z_case (7) (fun h1_7 => ?_) (fun h1_7 => ?_)
  · refine z_tabIn C (7) (107) 108 h1_7 dX6_status_1 (by decide) (by decide) ?_
    refine z_aload_n C 0 dX6_status_108 rfl ?_
    refine xg_0_2 C kf_X6_22 dX6_status_109 ?_
    refine xg_3 (k := 7) C (by decide) (by decide) kf_X6_260 dX6_status_112 ?_
    refine z_iret C0 dX6_status_115 ?_
    refine ⟨?_, rfl⟩
    subst h1_7
    rfl
  refine z_case (8) (fun h1_8 => ?_) (fun h1_8 => ?_)
  · refine z_tabIn C (8) (115) 116 h1_8 dX6_status_1 (by decide) (by decide) ?_
    refine z_aload_n C 0 dX6_status_116 rfl ?_
    refine xg_0_6 C kf_X6_42 dX6_status_117 ?_
    refine xg_10 (k := 0) C (by decide) kf_X6_263 dX6_status_120 ?_
    refine z_iret C0 dX6_status_123 ?_
    refine ⟨?_, rfl⟩
    subst h1_8
    rfl
  refine z_tabOut C 124 (by have q0 := lv_neT (a := (0)) h1_0 rfl; have q1 := lv_neT (a := (1)) h1_1 rfl; have q2 := lv_neT (a := (2)) h1_2 rfl; have q3 := lv_neT (a := (3)) h1_3 rfl; have q4 := lv_neT (a := (4)) h1_4 rfl; have q5 := lv_neT (a := (5)) h1_5 rfl; have q6 := lv_neT (a := (6)) h1_6 rfl; have q7 := lv_neT (a := (7)) h1_7 rfl; have q8 := lv_neT (a := (8)) h1_8 rfl; omega) dX6_status_1 (by decide) ?_
  refine z_iload_n C 1 dX6_status_124 rfl ?_
  refine z_bipush C (v := 11) dX6_status_125 rfl ?_
  refine z_icmp_lt C 148 dX6_status_127 (by decide) (fun h127 => ?_) (fun h127 => ?_)
  · skip
    refine z_iconst C (v := (-1)) dX6_status_148 rfl ?_
    refine z_iret C0 dX6_status_149 ?_
    refine ⟨?_, rfl⟩
    unfold aStatus
    rw [if_neg (inR9 h1_0 h1_1 h1_2 h1_3 h1_4 h1_5 h1_6 h1_7 h1_8)]
    rw [if_neg (fun z => absurd h127 z.1)]
  · skip
    refine z_iload_n C 1 dX6_status_130 rfl ?_
    refine z_bipush C (v := 17) dX6_status_131 rfl ?_
    refine z_icmp_gt C 148 dX6_status_133 (by decide) (fun h133 => ?_) (fun h133 => ?_)
    · skip
      refine z_iconst C (v := (-1)) dX6_status_148 rfl ?_
      refine z_iret C0 dX6_status_149 ?_
      refine ⟨?_, rfl⟩
      unfold aStatus
      rw [if_neg (inR9 h1_0 h1_1 h1_2 h1_3 h1_4 h1_5 h1_6 h1_7 h1_8)]
      rw [if_neg (fun z => absurd h133 z.2)]
    · skip
      obtain ⟨q, hq, eq⟩ := i_s17 h127 h133
      refine z_aload_n C 0 dX6_status_136 rfl ?_
      refine xg_0_1 C kf_X6_15 dX6_status_137 ?_
      refine z_iload_n C 1 dX6_status_140 rfl ?_
      refine z_bipush C (v := 10) dX6_status_141 rfl ?_
      refine z_isub C dX6_status_143 ?_
      refine xl_2 C q eq hq dX6_status_144 ?_
      refine z_goto C 149 dX6_status_145 (by decide) ?_
      refine z_iret C0 dX6_status_149 ?_
      refine ⟨?_, rfl⟩
      unfold aStatus
      rw [if_neg (inR9 h1_0 h1_1 h1_2 h1_3 h1_4 h1_5 h1_6 h1_7 h1_8)]
      rw [if_pos ⟨h127, h133⟩, eq, nI_clamp (by omega)]
set_option maxRecDepth 100000 in
set_option maxHeartbeats 4000000 in
theorem c_X6_says (l : Launch) (E : zE) (F : zF) (hI : XI F) (s k : Int32) : XM l E yX6_says cX6_says 5 (some .int) 4 [.ref (xadr E.2.2.1 (0, 0, 0)), .int (s), .int (k)] (F) (xpo F (kSays (F.1 0).1 (F.2.1 s.toNatClampNeg 0) s k) (saysS ((F.1 0).1.2.1 (F.2.1 s.toNatClampNeg 0).toNatClampNeg) k) (fun F2 => F2 = F)) := by
  refine XM.mk kq_X6 (Nat.le_of_ble_eq_true rfl) (fun K s C0 => ?_)
  have C := C0.c
  obtain ⟨hz, hw, hsh⟩ := id hI
  obtain ⟨⟨eS, lS⟩, ⟨eC, lC⟩⟩ := id hz
  refine z_iload_n C 1 dX6_says_0 rfl ?_
  refine z_callS1 C (c_X6_isShelf l E _ _) q_X6_47 ⟨by decide, by decide⟩ (Nat.le_of_ble_eq_true rfl) dX6_says_1 (fun v F9 hp => ?_)
  obtain ⟨rfl, e9⟩ := hp
  rw [e9]
  clear e9 F9
  refine z_if_eq C 14 dX6_says_4 (by decide) (fun h4 => ?_) (fun h4 => ?_)
  · skip
    have h4 := bI_0 h4
    refine z_aload_n C 0 dX6_says_14 rfl ?_
    refine z_iconst C (v := (-1)) dX6_says_15 rfl ?_
    refine z_callV1 C (c_X6_refuse l E _ _) ⟨by decide, rfl, rfl⟩ rfl rfl q_X6_51 ⟨by decide, by decide⟩ (Nat.le_of_ble_eq_true rfl) dX6_says_16 (fun v F9 hp => ?_)
    obtain ⟨rfl, e9⟩ := hp
    rw [e9]
    clear e9 F9
    refine z_iret C0 dX6_says_19 ?_
    exact xpo.ref (by simp [kSays, h4]) (by decide)
  · skip
    have h4 := bI_1 h4
    refine z_iload_n C 2 dX6_says_7 rfl ?_
    refine z_callS1 C (c_X6_isKind l E _ _) q_X6_101 ⟨by decide, by decide⟩ (Nat.le_of_ble_eq_true rfl) dX6_says_8 (fun v F9 hp => ?_)
    obtain ⟨rfl, e9⟩ := hp
    rw [e9]
    clear e9 F9
    refine z_if_ne C 20 dX6_says_11 (by decide) (fun h11 => ?_) (fun h11 => ?_)
    · skip
      have h11 := bI_1 h11
      obtain ⟨j, hj, rfl⟩ := inR_of (n := 8) h4 (by omega)
      have ej : (nI j).toNatClampNeg = j := nI_clamp (by omega)
      refine z_aload_n C 0 dX6_says_20 rfl ?_
      refine xg_0_0 C kf_X6_11 dX6_says_21 ?_
      refine z_iload_n C 1 dX6_says_24 rfl ?_
      refine xa_1 C j rfl (by first | assumption | omega) dX6_says_25 ?_
      refine z_astore_n (i := 3) C dX6_says_26 rfl (by decide) ?_
      refine z_aload_n C 0 dX6_says_27 rfl ?_
      refine z_callV0 C (c_X3_hasRow l E _ (by first | assumption | omega)) ⟨(by first | assumption | omega), rfl⟩ rfl rfl q_X6_74 ⟨by decide, by decide⟩ (Nat.le_of_ble_eq_true rfl) dX6_says_28 (fun v F9 hp => ?_)
      obtain ⟨rfl, e9⟩ := hp
      rw [e9]
      clear e9 F9
      refine z_if_eq C 41 dX6_says_31 (by decide) (fun h31 => ?_) (fun h31 => ?_)
      · skip
        have h31 := bI_0 h31
        refine z_aload_n C 0 dX6_says_41 rfl ?_
        refine z_callV0 C (c_X3_hasShop l E _ (by first | assumption | omega)) ⟨(by first | assumption | omega), rfl⟩ rfl rfl q_X6_70 ⟨by decide, by decide⟩ (Nat.le_of_ble_eq_true rfl) dX6_says_42 (fun v F9 hp => ?_)
        obtain ⟨rfl, e9⟩ := hp
        rw [e9]
        clear e9 F9
        refine z_if_eq C 59 dX6_says_45 (by decide) (fun h45 => ?_) (fun h45 => ?_)
        · skip
          have h45 := bI_0 h45
          refine z_aload_n C 1 dX6_says_59 rfl ?_
          refine z_bipush C (v := (-3)) dX6_says_60 rfl ?_
          refine z_callV1 C (c_X6_refuse l E _ _) ⟨by decide, rfl, rfl⟩ rfl rfl q_X6_51 ⟨by decide, by decide⟩ (Nat.le_of_ble_eq_true rfl) dX6_says_62 (fun v F9 hp => ?_)
          obtain ⟨rfl, e9⟩ := hp
          rw [e9]
          clear e9 F9
          refine z_iret C0 dX6_says_65 ?_
          exact xpo.ref (by simp [kSays, ej, h4, h11, h31, h45]) (by decide)
        · skip
          have h45 := bI_1 h45
          refine z_aload_n C 1 dX6_says_48 rfl ?_
          refine z_aload_n C 0 dX6_says_49 rfl ?_
          refine xg_12 (k := 0) C (by first | assumption | omega) (by decide) kf_X6_77 dX6_says_50 ?_
          refine z_callV1 C (c_X6_isShop l E _ _) ⟨by decide, rfl, rfl⟩ rfl rfl q_X6_94 ⟨by decide, by decide⟩ (Nat.le_of_ble_eq_true rfl) dX6_says_53 (fun v F9 hp => ?_)
          obtain ⟨rfl, e9⟩ := hp
          rw [e9]
          clear e9 F9
          refine z_if_ne C 66 dX6_says_56 (by decide) (fun h56 => ?_) (fun h56 => ?_)
          · skip
            have h56 := bI_1 h56
            obtain ⟨q, hq, eq⟩ := inR_of (n := nS (F.1 0).1) (by rw [← eS]; exact h56) (by omega)
            have hq6 : q < 6 := by omega
            refine z_aload_n C 1 dX6_says_66 rfl ?_
            refine xg_0_2 C kf_X6_22 dX6_says_67 ?_
            refine xg_3s C (by decide) kf_X6_104 dX6_says_70 ?_
            refine z_aload_n C 0 dX6_says_73 rfl ?_
            refine xg_12 (k := 0) C (by first | assumption | omega) (by decide) kf_X6_77 dX6_says_74 ?_
            refine xa_4 C (by decide) q eq hq6 dX6_says_77 ?_
            refine z_astore C dX6_says_78 (by decide) ?_
            refine z_aload C 0 dX6_says_80 rfl ?_
            refine z_iload_n C 4 dX6_says_82 rfl ?_
            refine z_callV1 C (c_X4_isOf l E _ (by first | assumption | omega) (by first | assumption | omega) _) ⟨(by decide), (by first | assumption | omega)⟩ rfl rfl q_X6_108 ⟨by decide, by decide⟩ (Nat.le_of_ble_eq_true rfl) dX6_says_83 (fun v F9 hp => ?_)
            obtain ⟨rfl, e9⟩ := hp
            rw [e9]
            clear e9 F9
            refine z_if_ne C 96 dX6_says_86 (by decide) (fun h86 => ?_) (fun h86 => ?_)
            · skip
              have h86 := bI_1 h86
              refine z_aload C 0 dX6_says_96 rfl ?_
              refine z_iload_n C 4 dX6_says_98 rfl ?_
              refine z_callV1 C (c_X4_saysAs l E _ (by first | assumption | omega) (by first | assumption | omega) _) ⟨(by decide), (by first | assumption | omega)⟩ rfl rfl q_X6_113 ⟨by decide, by decide⟩ (Nat.le_of_ble_eq_true rfl) dX6_says_99 (fun v F9 hp => ?_)
              obtain ⟨rfl, e9⟩ := hp
              rw [e9]
              clear e9 F9
              refine z_iret C0 dX6_says_102 ?_
              exact xpo.ok (by
                simp only [kSays, ej]
                rw [if_neg (by rw [h4]; decide), if_neg (by rw [h11]; decide), if_neg (by rw [h31]; decide), if_neg (by rw [h45]; decide), if_neg (by rw [h56]; decide), eq, nI_clamp (by omega), if_neg (by rw [h86]; decide)]) (by rw [ej, eq, nI_clamp (by omega)]) rfl
            · skip
              have h86 := bI_0 h86
              refine z_aload_n C 2 dX6_says_89 rfl ?_
              refine z_bipush C (v := (-2)) dX6_says_90 rfl ?_
              refine z_callV1 C (c_X6_refuse l E _ _) ⟨by decide, rfl, rfl⟩ rfl rfl q_X6_51 ⟨by decide, by decide⟩ (Nat.le_of_ble_eq_true rfl) dX6_says_92 (fun v F9 hp => ?_)
              obtain ⟨rfl, e9⟩ := hp
              rw [e9]
              clear e9 F9
              refine z_iret C0 dX6_says_95 ?_
              exact xpo.ref (by
                simp only [kSays, ej]
                rw [if_neg (by rw [h4]; decide), if_neg (by rw [h11]; decide), if_neg (by rw [h31]; decide), if_neg (by rw [h45]; decide), if_neg (by rw [h56]; decide), eq, nI_clamp (by omega), if_pos h86]) (by decide)
          · skip
            have h56 := bI_0 h56
            refine z_aload_n C 1 dX6_says_59 rfl ?_
            refine z_bipush C (v := (-3)) dX6_says_60 rfl ?_
            refine z_callV1 C (c_X6_refuse l E _ _) ⟨by decide, rfl, rfl⟩ rfl rfl q_X6_51 ⟨by decide, by decide⟩ (Nat.le_of_ble_eq_true rfl) dX6_says_62 (fun v F9 hp => ?_)
            obtain ⟨rfl, e9⟩ := hp
            rw [e9]
            clear e9 F9
            refine z_iret C0 dX6_says_65 ?_
            exact xpo.ref (by simp [kSays, ej, h4, h11, h31, h45, h56]) (by decide)
      · skip
        have h31 := bI_1 h31
        refine z_aload_n C 1 dX6_says_34 rfl ?_
        refine z_bipush C (v := (-2)) dX6_says_35 rfl ?_
        refine z_callV1 C (c_X6_refuse l E _ _) ⟨by decide, rfl, rfl⟩ rfl rfl q_X6_51 ⟨by decide, by decide⟩ (Nat.le_of_ble_eq_true rfl) dX6_says_37 (fun v F9 hp => ?_)
        obtain ⟨rfl, e9⟩ := hp
        rw [e9]
        clear e9 F9
        refine z_iret C0 dX6_says_40 ?_
        exact xpo.ref (by simp [kSays, ej, h4, h11, h31]) (by decide)
    · skip
      have h11 := bI_0 h11
      refine z_aload_n C 0 dX6_says_14 rfl ?_
      refine z_iconst C (v := (-1)) dX6_says_15 rfl ?_
      refine z_callV1 C (c_X6_refuse l E _ _) ⟨by decide, rfl, rfl⟩ rfl rfl q_X6_51 ⟨by decide, by decide⟩ (Nat.le_of_ble_eq_true rfl) dX6_says_16 (fun v F9 hp => ?_)
      obtain ⟨rfl, e9⟩ := hp
      rw [e9]
      clear e9 F9
      refine z_iret C0 dX6_says_19 ?_
      exact xpo.ref (by simp [kSays, h4, h11]) (by decide)
