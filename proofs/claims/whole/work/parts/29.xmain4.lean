/-! the class: its calls, the next -/
theorem noteN_at {g : zGc} {P : (Nat → Int32) × Bool} {q : Nat} : ∀ {n : Nat}, q < n → (noteN g n P).1 q = askS g q
  | n + 1, h => by
    by_cases hq : q = n
    · subst hq; simp [noteN, upd]
    · simp only [noteN, upd, if_neg hq]; exact noteN_at (n := n) (by omega)
theorem noteN_old {g : zGc} {P : (Nat → Int32) × Bool} {q : Nat} : ∀ {n : Nat}, n ≤ q → (noteN g n P).1 q = P.1 q
  | 0, _ => rfl
  | n + 1, h => by
    simp only [noteN, upd, if_neg (show q ≠ n by omega)]
    exact noteN_old (n := n) (by omega)
theorem noteN_any {g a b : zGc} {N : Nat → Int32} (h : eqv g b) : ∀ {n : Nat}, n ≤ nS b → (∀ q, q < n → N q = askS a q) → (noteN g n (N, false)).2 = anyN a b n
  | 0, _, _ => rfl
  | n + 1, hn, hN => by
    simp only [noteN, anyN, noteN_any h (n := n) (by omega) (fun q hq => hN q (by omega)), noteN_old (Nat.le_refl n), hN n (by omega), h.ask (s := n) (by omega)]
theorem kidsN_nt {f : zGf → Nat → Int32} {G : zGf} : ∀ {n : Nat}, (kidsN f n G).2.2 = G.2.2
  | 0 => rfl
  | n + 1 => kidsN_nt (n := n)
theorem minutes_nt {rule : Int32} {X : zGf} : (minutes rule 1 X).2.2 = X.2.2 := by
  show (kidsN _ _ (begM X)).2.2 = X.2.2
  rw [kidsN_nt]
  rfl
set_option maxRecDepth 100000 in
set_option maxHeartbeats 4000000 in
theorem c_cmp (l : Launch) (E : zE) (F : zF) (x y : Int32) : XM l E yJ6_compare_7cf53 cJ6_compare_7cf53 2 (some .int) 1 [.int (x), .int (y)] (F) (fun v F2 => v = some (.int (cmpI x y)) ∧ F2 = F) := by
  refine XM.mk kq_J6 (Nat.le_of_ble_eq_true rfl) (fun K s C0 => ?_)
  have C := C0.c
  refine z_iload_n C 0 dJ6_compare_7cf53_0 rfl ?_
  refine z_iload_n C 1 dJ6_compare_7cf53_1 rfl ?_
  refine z_icmp_ge C 9 dJ6_compare_7cf53_2 (by decide) (fun h2 => ?_) (fun h2 => ?_)
  · skip
    refine z_iload_n C 0 dJ6_compare_7cf53_9 rfl ?_
    refine z_iload_n C 1 dJ6_compare_7cf53_10 rfl ?_
    refine z_icmp_ne C 18 dJ6_compare_7cf53_11 (by decide) (fun h11 => ?_) (fun h11 => ?_)
    · skip
      refine z_iconst C (v := 1) dJ6_compare_7cf53_18 rfl ?_
      refine z_iret C0 dJ6_compare_7cf53_19 ?_
      refine ⟨?_, rfl⟩
      unfold cmpI
      rw [if_neg (Int32.not_lt.mpr h2), if_neg h11]
    · skip
      refine z_iconst C (v := 0) dJ6_compare_7cf53_14 rfl ?_
      refine z_goto C 19 dJ6_compare_7cf53_15 (by decide) ?_
      refine z_iret C0 dJ6_compare_7cf53_19 ?_
      refine ⟨?_, rfl⟩
      unfold cmpI
      rw [if_neg (Int32.not_lt.mpr h2), if_pos h11]
  · skip
    refine z_iconst C (v := (-1)) dJ6_compare_7cf53_5 rfl ?_
    refine z_goto C 19 dJ6_compare_7cf53_6 (by decide) ?_
    refine z_iret C0 dJ6_compare_7cf53_19 ?_
    refine ⟨?_, rfl⟩
    unfold cmpI
    rw [if_pos (Int32.not_le.mp h2)]
set_option maxRecDepth 100000 in
set_option maxHeartbeats 4000000 in
theorem c_X6_runs (l : Launch) (E : zE) (F : zF) (hI : XI F) (rule n p : Int32) : XM l E yX6_runs cX6_runs 4 (some .int) 7 [.ref (xadr E.2.2.1 (0, 0, 0)), .int (rule), .int (n), .int (p)] (F) (xpo F (kRuns (F.1 0).1 rule n p) (cmpI (askS (run rule n.toNatClampNeg (F.1 0).1) p.toNatClampNeg) (askS (F.1 0).1 p.toNatClampNeg)) (thO F)) := by
  refine XM.mk kq_X6 (Nat.le_of_ble_eq_true rfl) (fun K s C0 => ?_)
  have C := C0.c
  obtain ⟨hz, hw, hsh⟩ := id hI
  obtain ⟨⟨eS, lS⟩, ⟨eC, lC⟩⟩ := id hz
  refine z_aload_n C 0 dX6_runs_0 rfl ?_
  refine z_iload_n C 3 dX6_runs_1 rfl ?_
  refine z_callV1 C (c_X6_isShop l E _ _) ⟨by decide, rfl, rfl⟩ rfl rfl q_X6_94 ⟨by decide, by decide⟩ (Nat.le_of_ble_eq_true rfl) dX6_runs_2 (fun v F9 hp => ?_)
  obtain ⟨rfl, e9⟩ := hp
  rw [e9]
  clear e9 F9
  refine z_if_ne C 15 dX6_runs_5 (by decide) (fun h5 => ?_) (fun h5 => ?_)
  · skip
    have h5 := bI_1 h5
    refine z_iload_n C 1 dX6_runs_15 rfl ?_
    refine z_callS1 C (c_X6_isRule l E _ _) q_X6_199 ⟨by decide, by decide⟩ (Nat.le_of_ble_eq_true rfl) dX6_runs_16 (fun v F9 hp => ?_)
    obtain ⟨rfl, e9⟩ := hp
    rw [e9]
    clear e9 F9
    refine z_if_eq C 29 dX6_runs_19 (by decide) (fun h19 => ?_) (fun h19 => ?_)
    · skip
      have h19 := bI_0 h19
      refine z_aload_n C 0 dX6_runs_29 rfl ?_
      refine z_bipush C (v := (-16)) dX6_runs_30 rfl ?_
      refine z_callV1 C (c_X6_refuse l E _ _) ⟨by decide, rfl, rfl⟩ rfl rfl q_X6_51 ⟨by decide, by decide⟩ (Nat.le_of_ble_eq_true rfl) dX6_runs_32 (fun v F9 hp => ?_)
      obtain ⟨rfl, e9⟩ := hp
      rw [e9]
      clear e9 F9
      refine z_iret C0 dX6_runs_35 ?_
      exact xpo.ref (by simp [kRuns, okRN, h5, h19]) (by decide)
    · skip
      have h19 := bI_1 h19
      refine z_iload_n C 2 dX6_runs_22 rfl ?_
      refine z_callS1 C (c_X6_isTime l E _ _) q_X6_202 ⟨by decide, by decide⟩ (Nat.le_of_ble_eq_true rfl) dX6_runs_23 (fun v F9 hp => ?_)
      obtain ⟨rfl, e9⟩ := hp
      rw [e9]
      clear e9 F9
      refine z_if_ne C 36 dX6_runs_26 (by decide) (fun h26 => ?_) (fun h26 => ?_)
      · skip
        have h26 := bI_1 h26
        obtain ⟨j, hj, rfl⟩ := inR_of (n := nS (F.1 0).1) (by rw [← eS]; exact h5) (by omega)
        have hj6 : j < 6 := by omega
        obtain ⟨nn, hnn, rfl⟩ := inT_of (n := 240) h26 (by omega)
        refine z_aload_n C 0 dX6_runs_36 rfl ?_
        refine z_iload_n C 1 dX6_runs_37 rfl ?_
        refine z_iload_n C 2 dX6_runs_38 rfl ?_
        refine z_callV2 C (c_X6_foresee l E _ hI _ (by first | assumption | omega)) ⟨by decide, rfl, rfl⟩ rfl rfl q_X6_205 ⟨by decide, by decide⟩ (Nat.le_of_ble_eq_true rfl) dX6_runs_39 (fun v F9 hp => ?_)
        obtain ⟨T, e9, hT, rfl⟩ := hp
        rw [e9]
        clear e9 F9
        have hzT : gz T.1 := (hT.tr (eqv.rf _)).z (sk_run.z hz)
        have eTS : nS T.1 = nS (F.1 0).1 := hT.S.trans sk_run.S
        have eTC : nC T.1 = nC (F.1 0).1 := hT.C.trans sk_run.C
        refine z_pop C dX6_runs_42 rfl ?_
        refine z_aload_n C 0 dX6_runs_43 rfl ?_
        refine xg_0_3 C kf_X6_26 dX6_runs_44 ?_
        refine xg_3s C (by decide) kf_X6_104 dX6_runs_47 ?_
        refine z_iload_n C 3 dX6_runs_50 rfl ?_
        refine xa_4 C (by decide) j rfl (by first | assumption | omega) dX6_runs_51 ?_
        refine z_callV0 C (c_X4_asksNow l E _ (by first | assumption | omega) (by first | assumption | omega)) ⟨(by decide), (by first | assumption | omega)⟩ rfl rfl q_X6_145 ⟨by decide, by decide⟩ (Nat.le_of_ble_eq_true rfl) dX6_runs_52 (fun v F9 hp => ?_)
        obtain ⟨rfl, e9⟩ := hp
        rw [e9]
        clear e9 F9
        refine z_aload_n C 0 dX6_runs_55 rfl ?_
        refine xg_0_2 C kf_X6_22 dX6_runs_56 ?_
        refine xg_3s C (by decide) kf_X6_104 dX6_runs_59 ?_
        refine z_iload_n C 3 dX6_runs_62 rfl ?_
        refine xa_4 C (by decide) j rfl (by first | assumption | omega) dX6_runs_63 ?_
        refine z_callV0 C (c_X4_asksNow l E _ (by first | assumption | omega) (by first | assumption | omega)) ⟨(by decide), (by first | assumption | omega)⟩ rfl rfl q_X6_145 ⟨by decide, by decide⟩ (Nat.le_of_ble_eq_true rfl) dX6_runs_64 (fun v F9 hp => ?_)
        obtain ⟨rfl, e9⟩ := hp
        rw [e9]
        clear e9 F9
        refine z_callS2 C (c_cmp l E _ _ _) q_X6_211 ⟨by decide, by decide⟩ (Nat.le_of_ble_eq_true rfl) dX6_runs_67 (fun v F9 hp => ?_)
        obtain ⟨rfl, e9⟩ := hp
        rw [e9]
        clear e9 F9
        refine z_iret C0 dX6_runs_70 ?_
        exact xpo.ok (by simp [kRuns, okRN, h5, h19, h26]) (by rw [nI_clamp (by omega), nI_clamp (by omega), ← hT.ask (by rw [sk_run.S]; exact hj)]; rfl) ⟨T, rfl⟩
      · skip
        have h26 := bI_0 h26
        refine z_aload_n C 0 dX6_runs_29 rfl ?_
        refine z_bipush C (v := (-16)) dX6_runs_30 rfl ?_
        refine z_callV1 C (c_X6_refuse l E _ _) ⟨by decide, rfl, rfl⟩ rfl rfl q_X6_51 ⟨by decide, by decide⟩ (Nat.le_of_ble_eq_true rfl) dX6_runs_32 (fun v F9 hp => ?_)
        obtain ⟨rfl, e9⟩ := hp
        rw [e9]
        clear e9 F9
        refine z_iret C0 dX6_runs_35 ?_
        exact xpo.ref (by simp [kRuns, okRN, h5, h19, h26]) (by decide)
  · skip
    have h5 := bI_0 h5
    refine z_aload_n C 0 dX6_runs_8 rfl ?_
    refine z_bipush C (v := (-11)) dX6_runs_9 rfl ?_
    refine z_callV1 C (c_X6_refuse l E _ _) ⟨by decide, rfl, rfl⟩ rfl rfl q_X6_51 ⟨by decide, by decide⟩ (Nat.le_of_ble_eq_true rfl) dX6_runs_11 (fun v F9 hp => ?_)
    obtain ⟨rfl, e9⟩ := hp
    rw [e9]
    clear e9 F9
    refine z_iret C0 dX6_runs_14 ?_
    exact xpo.ref (by simp [kRuns, h5]) (by decide)
set_option maxRecDepth 100000 in
set_option maxHeartbeats 4000000 in
theorem lp_X6_settledBehind {l : Launch} {E : zE} {K : zK} {s : State} (F : zF) (hI : XI F) (rule : Int32) (C0 : XR l E K cX6_settledBehind RX6 6 s 4 (some .int) (fun v F2 => v = some (.int (setlN rule (F.1 0).1 240)) ∧ thO F F2)) : ∀ (n2 : Nat) (t : Nat) (X : zGf), (240 - t < n2) → (t ≤ 240) → (eqv X.1 (run rule t (F.1 0).1)) → (∀ q, q < nS (F.1 0).1 → X.2.2 q = askS (run rule t (F.1 0).1) q) → Z K (XP E (sG F 1 X) s) 23 [(0, .ref (xadr E.2.2.1 (0, 0, 0))), (1, .int (rule)), (2, .int (setlN rule (F.1 0).1 t)), (3, .int (nI (t + 1)))] [] := by
  have C := C0.c
  intro n2
  induction n2 with
  | zero => intro t X hk hkl hX hN; exact absurd hk (Nat.not_lt_zero _)
  | succ n2 ih =>
    intro t X hk hkl hX hN
    obtain ⟨hz, hw, hsh⟩ := id hI
    obtain ⟨⟨eS, lS⟩, ⟨eC, lC⟩⟩ := id hz
    obtain ⟨zX, wX⟩ : gz X.1 ∧ wn X.1 := ⟨hX.z (sk_run.z hz), hX.w (sk_run.w hw)⟩
    refine z_iload_n C 3 dX6_settledBehind_23 rfl ?_
    refine z_sipush C (v := 240) dX6_settledBehind_24 rfl ?_
    refine z_icmp_gt C 57 dX6_settledBehind_27 (by decide) (fun h27 => ?_) (fun h27 => ?_)
    · skip
      refine z_iload_n C 2 dX6_settledBehind_57 rfl ?_
      refine z_iret C0 dX6_settledBehind_58 ?_
      have e : t = 240 := by
        rcases Nat.lt_or_ge t 240 with q | q
        · exact absurd ((nI_ltI (a := 240) (b := t + 1) (by omega) (by omega)).mp h27) (by omega)
        · omega
      subst e
      exact ⟨rfl, X, rfl⟩
    · skip
      have ht2 : t < 240 := by
        rcases Nat.lt_or_ge t 240 with q | q
        · exact q
        · exact absurd ((nI_ltI (a := 240) (b := t + 1) (by omega) (by omega)).mpr (by omega)) h27
      refine z_aload_n C 0 dX6_settledBehind_30 rfl ?_
      refine xg_0_3 C kf_X6_26 dX6_settledBehind_31 ?_
      refine z_iload_n C 1 dX6_settledBehind_34 rfl ?_
      refine z_iconst C (v := 1) dX6_settledBehind_35 rfl ?_
      refine z_top (nI 1) (rfl) ?_
      refine z_callV2 C (cg_X1_passMinutes l E (sG F 1 X) (gi := 1) (by decide) zX wX (by omega)) ⟨(by decide), rfl⟩ rfl rfl q_X6_222 ⟨by decide, by decide⟩ (Nat.le_of_ble_eq_true rfl) dX6_settledBehind_36 (fun v F9 hp => ?_)
      obtain ⟨rfl, e9⟩ := hp
      rw [e9]
      clear e9 F9
      have eR := e_run1 hX hz
      have zY : gz (minutes rule 1 X).1 := eR.z (sk_run.z hz)
      refine z_aload_n C 0 dX6_settledBehind_39 rfl ?_
      refine xg_0_3 C kf_X6_26 dX6_settledBehind_40 ?_
      refine z_callV0 C (cg_X1_noteAsked l E _ (gi := 1) (by decide) zY) ⟨(by decide), rfl⟩ rfl rfl q_X6_284 ⟨by decide, by decide⟩ (Nat.le_of_ble_eq_true rfl) dX6_settledBehind_43 (fun v F9 hp => ?_)
      obtain ⟨rfl, e9⟩ := hp
      rw [e9]
      clear e9 F9
      refine z_if_eq C 51 dX6_settledBehind_46 (by decide) (fun h46 => ?_) (fun h46 => ?_)
      · skip
        have h46 := bI_0 h46
        refine z_iinc C (v := nI ((t + 1) + 1)) 3 dX6_settledBehind_51 rfl (nI_1 _) (by decide) ?_
        refine z_goto C 23 dX6_settledBehind_54 (by decide) ?_
        refine z_pick [1, 2, 3, 0] rfl ?_
        rw [sG_sG, sG_sG]
        have eA : (noteN (minutes rule 1 X).1 (nS (minutes rule 1 X).1) ((minutes rule 1 X).2.2, false)).2 = anyN (run rule t (F.1 0).1) (run rule (t + 1) (F.1 0).1) (nS (F.1 0).1) := by
          rw [eR.S, sk_run.S]
          exact noteN_any eR (by rw [sk_run.S]; exact Nat.le_refl _) (fun q hq => (congrFun minutes_nt q).trans (hN q hq))
        have q := ih (t + 1) ((minutes rule 1 X).1, (minutes rule 1 X).2.1, (noteN (minutes rule 1 X).1 (nS (minutes rule 1 X).1) ((minutes rule 1 X).2.2, false)).1) (by omega) (by omega) eR (fun q hq => by
          show (noteN _ _ _).1 q = _
          rw [noteN_at (by rw [eR.S, sk_run.S]; exact hq)]
          exact eR.ask (by rw [sk_run.S]; exact hq))
        simp only [setlN] at q
        rw [if_neg (by rw [← eA]; exact fun z => absurd (h46.symm.trans z) (by decide))] at q
        exact q
      · skip
        have h46 := bI_1 h46
        refine z_iload_n C 3 dX6_settledBehind_49 rfl ?_
        refine z_istore_n (i := 2) C dX6_settledBehind_50 rfl (by decide) ?_
        refine z_iinc C (v := nI ((t + 1) + 1)) 3 dX6_settledBehind_51 rfl (nI_1 _) (by decide) ?_
        refine z_goto C 23 dX6_settledBehind_54 (by decide) ?_
        refine z_pick [2, 3, 1, 0] rfl ?_
        rw [sG_sG, sG_sG]
        have eA : (noteN (minutes rule 1 X).1 (nS (minutes rule 1 X).1) ((minutes rule 1 X).2.2, false)).2 = anyN (run rule t (F.1 0).1) (run rule (t + 1) (F.1 0).1) (nS (F.1 0).1) := by
          rw [eR.S, sk_run.S]
          exact noteN_any eR (by rw [sk_run.S]; exact Nat.le_refl _) (fun q hq => (congrFun minutes_nt q).trans (hN q hq))
        have q := ih (t + 1) ((minutes rule 1 X).1, (minutes rule 1 X).2.1, (noteN (minutes rule 1 X).1 (nS (minutes rule 1 X).1) ((minutes rule 1 X).2.2, false)).1) (by omega) (by omega) eR (fun q hq => by
          show (noteN _ _ _).1 q = _
          rw [noteN_at (by rw [eR.S, sk_run.S]; exact hq)]
          exact eR.ask (by rw [sk_run.S]; exact hq))
        simp only [setlN] at q
        rw [if_pos (eA.symm.trans h46)] at q
        exact q
set_option maxRecDepth 100000 in
set_option maxHeartbeats 4000000 in
theorem c_X6_settledBehind (l : Launch) (E : zE) (F : zF) (hI : XI F) (rule : Int32) : XM l E yX6_settledBehind cX6_settledBehind 4 (some .int) 6 [.ref (xadr E.2.2.1 (0, 0, 0)), .int (rule)] (F) (fun v F2 => v = some (.int (setlN rule (F.1 0).1 240)) ∧ thO F F2) := by
  refine XM.mk kq_X6 (Nat.le_of_ble_eq_true rfl) (fun K s C0 => ?_)
  have C := C0.c
  obtain ⟨hz, hw, hsh⟩ := id hI
  obtain ⟨⟨eS, lS⟩, ⟨eC, lC⟩⟩ := id hz
  refine z_aload_n C 0 dX6_settledBehind_0 rfl ?_
  refine xg_0_3 C kf_X6_26 dX6_settledBehind_1 ?_
  refine z_aload_n C 0 dX6_settledBehind_4 rfl ?_
  refine xg_0_2 C kf_X6_22 dX6_settledBehind_5 ?_
  refine z_callV1 C (cg_X1_takeAll l E _ (gi := 1) (by decide) (gj := 0) (by decide) (by decide) hz) ⟨(by decide), rfl⟩ rfl rfl q_X6_192 ⟨by decide, by decide⟩ (Nat.le_of_ble_eq_true rfl) dX6_settledBehind_8 (fun v F9 hp => ?_)
  obtain ⟨rfl, e9⟩ := hp
  rw [e9]
  clear e9 F9
  have eT := lay_eqv (F.1 0).1 (F.1 1).1
  have zT : gz (layG (F.1 0).1 (F.1 1).1) := eT.z hz
  refine z_aload_n C 0 dX6_settledBehind_11 rfl ?_
  refine xg_0_3 C kf_X6_26 dX6_settledBehind_12 ?_
  refine z_callV0 C (cg_X1_noteAsked l E _ (gi := 1) (by decide) zT) ⟨(by decide), rfl⟩ rfl rfl q_X6_284 ⟨by decide, by decide⟩ (Nat.le_of_ble_eq_true rfl) dX6_settledBehind_15 (fun v F9 hp => ?_)
  obtain ⟨rfl, e9⟩ := hp
  rw [e9]
  clear e9 F9
  refine z_pop C dX6_settledBehind_18 rfl ?_
  refine z_iconst C (v := 0) dX6_settledBehind_19 rfl ?_
  refine z_istore_n (i := 2) C dX6_settledBehind_20 rfl (by decide) ?_
  refine z_iconst C (v := 1) dX6_settledBehind_21 rfl ?_
  refine z_istore_n (i := 3) C dX6_settledBehind_22 rfl (by decide) ?_
  refine z_pick [2, 3, 1, 0] rfl ?_
  rw [sG_sG]
  exact lp_X6_settledBehind F hI rule C0 241 0 _ (by omega) (by omega) (show eqv (layG (F.1 0).1 (F.1 1).1) (F.1 0).1 from eT) (fun q hq => by
    show (noteN (layG (F.1 0).1 (F.1 1).1) (nS (layG (F.1 0).1 (F.1 1).1)) _).1 q = _
    rw [noteN_at (by rw [eT.S]; exact hq)]
    exact eT.ask hq)
set_option maxRecDepth 100000 in
set_option maxHeartbeats 4000000 in
theorem lp_X6_stoppedFrom {l : Launch} {E : zE} {K : zK} {s : State} (F : zF) (hI : XI F) (rule : Int32) (C0 : XR l E K cX6_stoppedFrom RX6 6 s 5 (some .int) (fun v F2 => v = some (.int (aStop (stopN rule (F.1 0).1 240))) ∧ thO F F2)) : ∀ (n2 : Nat) (t : Nat) (X : zGf), (240 - t < n2) → (t ≤ 240) → (eqv X.1 (run rule t (F.1 0).1)) → Z K (XP E (sG F 1 X) s) 15 [(0, .ref (xadr E.2.2.1 (0, 0, 0))), (1, .int (rule)), (2, .int (stopN rule (F.1 0).1 t)), (3, .int (nI t))] [] := by
  have C := C0.c
  intro n2
  induction n2 with
  | zero => intro t X hk hkl hX; exact absurd hk (Nat.not_lt_zero _)
  | succ n2 ih =>
    intro t X hk hkl hX
    obtain ⟨hz, hw, hsh⟩ := id hI
    obtain ⟨⟨eS, lS⟩, ⟨eC, lC⟩⟩ := id hz
    obtain ⟨zX, wX⟩ : gz X.1 ∧ wn X.1 := ⟨hX.z (sk_run.z hz), hX.w (sk_run.w hw)⟩
    refine z_iload_n C 3 dX6_stoppedFrom_15 rfl ?_
    refine z_sipush C (v := 240) dX6_stoppedFrom_16 rfl ?_
    refine z_icmp_ge C 62 dX6_stoppedFrom_19 (by decide) (fun h19 => ?_) (fun h19 => ?_)
    · skip
      refine z_iload_n C 2 dX6_stoppedFrom_62 rfl ?_
      refine z_sipush C (v := 240) dX6_stoppedFrom_63 rfl ?_
      refine z_icmp_ge C 73 dX6_stoppedFrom_66 (by decide) (fun h66 => ?_) (fun h66 => ?_)
      · skip
        refine z_iconst C (v := (-1)) dX6_stoppedFrom_73 rfl ?_
        refine z_iret C0 dX6_stoppedFrom_74 ?_
        have e : t = 240 := by
          rcases Nat.lt_or_ge t (240) with q | q
          · exact absurd h19 (nI_ge (b := 240) q (by omega))
          · omega
        subst e
        refine ⟨?_, X, rfl⟩
        unfold aStop
        rw [if_neg (Int32.not_lt.mpr h66)]
      · skip
        refine z_iload_n C 2 dX6_stoppedFrom_69 rfl ?_
        refine z_goto C 74 dX6_stoppedFrom_70 (by decide) ?_
        refine z_iret C0 dX6_stoppedFrom_74 ?_
        have e : t = 240 := by
          rcases Nat.lt_or_ge t (240) with q | q
          · exact absurd h19 (nI_ge (b := 240) q (by omega))
          · omega
        subst e
        refine ⟨?_, X, rfl⟩
        unfold aStop
        rw [if_pos (Int32.not_le.mp h66)]
    · skip
      have ht2 : t < 240 := by
        rcases Nat.lt_or_ge t (240) with q | q
        · exact q
        · exact absurd (nI_le (a := 240) q (by omega)) h19
      refine z_aload_n C 0 dX6_stoppedFrom_22 rfl ?_
      refine xg_0_3 C kf_X6_26 dX6_stoppedFrom_23 ?_
      refine xg_3 (k := 6) C (by decide) (by decide) kf_X6_225 dX6_stoppedFrom_26 ?_
      refine z_istore C dX6_stoppedFrom_29 (by decide) ?_
      refine z_aload_n C 1 dX6_stoppedFrom_31 rfl ?_
      refine xg_0_3 C kf_X6_26 dX6_stoppedFrom_32 ?_
      refine z_iload_n C 2 dX6_stoppedFrom_35 rfl ?_
      refine z_iconst C (v := 1) dX6_stoppedFrom_36 rfl ?_
      refine z_top (nI 1) (rfl) ?_
      refine z_callV2 C (cg_X1_passMinutes l E (sG F 1 X) (gi := 1) (by decide) zX wX (by omega)) ⟨(by decide), rfl⟩ rfl rfl q_X6_222 ⟨by decide, by decide⟩ (Nat.le_of_ble_eq_true rfl) dX6_stoppedFrom_37 (fun v F9 hp => ?_)
      obtain ⟨rfl, e9⟩ := hp
      rw [e9]
      clear e9 F9
      have eR := e_run1 hX hz
      refine z_aload_n C 1 dX6_stoppedFrom_40 rfl ?_
      refine xg_0_3 C kf_X6_26 dX6_stoppedFrom_41 ?_
      refine xg_3 (k := 6) C (by decide) (by decide) kf_X6_225 dX6_stoppedFrom_44 ?_
      refine z_iload C 0 dX6_stoppedFrom_47 rfl ?_
      refine z_icmp_eq C 56 dX6_stoppedFrom_49 (by decide) (fun h49 => ?_) (fun h49 => ?_)
      · skip
        refine z_iinc C (v := nI (t + 1)) 4 dX6_stoppedFrom_56 rfl (nI_1 _) (by decide) ?_
        refine z_goto C 15 dX6_stoppedFrom_59 (by decide) ?_
        refine z_pick [2, 3, 4, 0] rfl ?_
        rw [sG_sG]
        have q := ih (t + 1) (minutes rule 1 X) (by omega) (by omega) eR
        have eD : ((run rule (t + 1) (F.1 0).1).1 6 = (run rule t (F.1 0).1).1 6) = ((minutes rule 1 X).1.1 6 = X.1.1 6) := by rw [eR.1 6 (by omega), hX.1 6 (by omega)]
        simp only [stopN] at q
        rw [if_pos (eD.mpr h49)] at q
        exact q
      · skip
        refine z_iload_n C 4 dX6_stoppedFrom_52 rfl ?_
        refine z_iconst C (v := 1) dX6_stoppedFrom_53 rfl ?_
        refine z_iadd C dX6_stoppedFrom_54 ?_
        refine z_top (nI (t + 1)) (nI_1 _) ?_
        refine z_istore_n (i := 2) C dX6_stoppedFrom_55 rfl (by decide) ?_
        refine z_iinc C (v := nI (t + 1)) 4 dX6_stoppedFrom_56 rfl (nI_1 _) (by decide) ?_
        refine z_goto C 15 dX6_stoppedFrom_59 (by decide) ?_
        refine z_pick [3, 4, 1, 0] rfl ?_
        rw [sG_sG]
        have q := ih (t + 1) (minutes rule 1 X) (by omega) (by omega) eR
        have eD : ((run rule (t + 1) (F.1 0).1).1 6 = (run rule t (F.1 0).1).1 6) = ((minutes rule 1 X).1.1 6 = X.1.1 6) := by rw [eR.1 6 (by omega), hX.1 6 (by omega)]
        simp only [stopN] at q
        rw [if_neg (fun z => h49 (eD.mp z))] at q
        exact q
set_option maxRecDepth 100000 in
set_option maxHeartbeats 4000000 in
theorem c_X6_stoppedFrom (l : Launch) (E : zE) (F : zF) (hI : XI F) (rule : Int32) : XM l E yX6_stoppedFrom cX6_stoppedFrom 5 (some .int) 6 [.ref (xadr E.2.2.1 (0, 0, 0)), .int (rule)] (F) (fun v F2 => v = some (.int (aStop (stopN rule (F.1 0).1 240))) ∧ thO F F2) := by
  refine XM.mk kq_X6 (Nat.le_of_ble_eq_true rfl) (fun K s C0 => ?_)
  have C := C0.c
  obtain ⟨hz, hw, hsh⟩ := id hI
  obtain ⟨⟨eS, lS⟩, ⟨eC, lC⟩⟩ := id hz
  refine z_aload_n C 0 dX6_stoppedFrom_0 rfl ?_
  refine xg_0_3 C kf_X6_26 dX6_stoppedFrom_1 ?_
  refine z_aload_n C 0 dX6_stoppedFrom_4 rfl ?_
  refine xg_0_2 C kf_X6_22 dX6_stoppedFrom_5 ?_
  refine z_callV1 C (cg_X1_takeAll l E _ (gi := 1) (by decide) (gj := 0) (by decide) (by decide) hz) ⟨(by decide), rfl⟩ rfl rfl q_X6_192 ⟨by decide, by decide⟩ (Nat.le_of_ble_eq_true rfl) dX6_stoppedFrom_8 (fun v F9 hp => ?_)
  obtain ⟨rfl, e9⟩ := hp
  rw [e9]
  clear e9 F9
  have eT := lay_eqv (F.1 0).1 (F.1 1).1
  refine z_iconst C (v := 0) dX6_stoppedFrom_11 rfl ?_
  refine z_istore_n (i := 2) C dX6_stoppedFrom_12 rfl (by decide) ?_
  refine z_iconst C (v := 0) dX6_stoppedFrom_13 rfl ?_
  refine z_istore_n (i := 3) C dX6_stoppedFrom_14 rfl (by decide) ?_
  refine z_pick [2, 3, 1, 0] rfl ?_
  exact lp_X6_stoppedFrom F hI rule C0 241 0 _ (by omega) (by omega) (show eqv (layG (F.1 0).1 (F.1 1).1) (F.1 0).1 from eT)
set_option maxRecDepth 100000 in
set_option maxHeartbeats 4000000 in
theorem c_X6_settles (l : Launch) (E : zE) (F : zF) (hI : XI F) (rule w : Int32) : XM l E yX6_settles cX6_settles 3 (some .int) 7 [.ref (xadr E.2.2.1 (0, 0, 0)), .int (rule), .int (w)] (F) (xpo F (kSettles rule w) (if w = 0 then setlN rule (F.1 0).1 240 else aStop (stopN rule (F.1 0).1 240)) (thO F)) := by
  refine XM.mk kq_X6 (Nat.le_of_ble_eq_true rfl) (fun K s C0 => ?_)
  have C := C0.c
  obtain ⟨hz, hw, hsh⟩ := id hI
  obtain ⟨⟨eS, lS⟩, ⟨eC, lC⟩⟩ := id hz
  refine z_iload_n C 2 dX6_settles_0 rfl ?_
  refine z_if_eq C 16 dX6_settles_1 (by decide) (fun h1 => ?_) (fun h1 => ?_)
  · skip
    refine z_iload_n C 1 dX6_settles_16 rfl ?_
    refine z_callS1 C (c_X6_isRule l E _ _) q_X6_199 ⟨by decide, by decide⟩ (Nat.le_of_ble_eq_true rfl) dX6_settles_17 (fun v F9 hp => ?_)
    obtain ⟨rfl, e9⟩ := hp
    rw [e9]
    clear e9 F9
    refine z_if_ne C 30 dX6_settles_20 (by decide) (fun h20 => ?_) (fun h20 => ?_)
    · skip
      have h20 := bI_1 h20
      refine z_iload_n C 2 dX6_settles_30 rfl ?_
      refine z_if_ne C 42 dX6_settles_31 (by decide) (fun h31 => ?_) (fun h31 => ?_)
      · skip
        refine z_aload_n C 0 dX6_settles_42 rfl ?_
        refine z_iload_n C 1 dX6_settles_43 rfl ?_
        refine z_callV1 C (c_X6_stoppedFrom l E _ hI _) ⟨by decide, rfl, rfl⟩ rfl rfl q_X6_219 ⟨by decide, by decide⟩ (Nat.le_of_ble_eq_true rfl) dX6_settles_44 (fun v F9 hp => ?_)
        obtain ⟨rfl, hth⟩ := hp
        refine z_iret C0 dX6_settles_47 ?_
        exact xpo.ok (by simp [kSettles, h1, h20, h31]) (by rw [if_neg h31]) hth
      · skip
        refine z_aload_n C 0 dX6_settles_34 rfl ?_
        refine z_iload_n C 1 dX6_settles_35 rfl ?_
        refine z_callV1 C (c_X6_settledBehind l E _ hI _) ⟨by decide, rfl, rfl⟩ rfl rfl q_X6_216 ⟨by decide, by decide⟩ (Nat.le_of_ble_eq_true rfl) dX6_settles_36 (fun v F9 hp => ?_)
        obtain ⟨rfl, hth⟩ := hp
        refine z_goto C 47 dX6_settles_39 (by decide) ?_
        refine z_iret C0 dX6_settles_47 ?_
        exact xpo.ok (by simp [kSettles, h1, h20, h31]) (by rw [if_pos h31]) hth
    · skip
      have h20 := bI_0 h20
      refine z_aload_n C 0 dX6_settles_23 rfl ?_
      refine z_bipush C (v := (-16)) dX6_settles_24 rfl ?_
      refine z_callV1 C (c_X6_refuse l E _ _) ⟨by decide, rfl, rfl⟩ rfl rfl q_X6_51 ⟨by decide, by decide⟩ (Nat.le_of_ble_eq_true rfl) dX6_settles_26 (fun v F9 hp => ?_)
      obtain ⟨rfl, e9⟩ := hp
      rw [e9]
      clear e9 F9
      refine z_iret C0 dX6_settles_29 ?_
      exact xpo.ref (by simp [kSettles, h1, h20]) (by decide)
  · skip
    refine z_iload_n C 2 dX6_settles_4 rfl ?_
    refine z_iconst C (v := 1) dX6_settles_5 rfl ?_
    refine z_icmp_eq C 16 dX6_settles_6 (by decide) (fun h6 => ?_) (fun h6 => ?_)
    · skip
      refine z_iload_n C 1 dX6_settles_16 rfl ?_
      refine z_callS1 C (c_X6_isRule l E _ _) q_X6_199 ⟨by decide, by decide⟩ (Nat.le_of_ble_eq_true rfl) dX6_settles_17 (fun v F9 hp => ?_)
      obtain ⟨rfl, e9⟩ := hp
      rw [e9]
      clear e9 F9
      refine z_if_ne C 30 dX6_settles_20 (by decide) (fun h20 => ?_) (fun h20 => ?_)
      · skip
        have h20 := bI_1 h20
        refine z_iload_n C 2 dX6_settles_30 rfl ?_
        refine z_if_ne C 42 dX6_settles_31 (by decide) (fun h31 => ?_) (fun h31 => ?_)
        · skip
          refine z_aload_n C 0 dX6_settles_42 rfl ?_
          refine z_iload_n C 1 dX6_settles_43 rfl ?_
          refine z_callV1 C (c_X6_stoppedFrom l E _ hI _) ⟨by decide, rfl, rfl⟩ rfl rfl q_X6_219 ⟨by decide, by decide⟩ (Nat.le_of_ble_eq_true rfl) dX6_settles_44 (fun v F9 hp => ?_)
          obtain ⟨rfl, hth⟩ := hp
          refine z_iret C0 dX6_settles_47 ?_
          exact xpo.ok (by simp [kSettles, h1, h6, h20, h31]) (by rw [if_neg h31]) hth
        · skip
          refine z_aload_n C 0 dX6_settles_34 rfl ?_
          refine z_iload_n C 1 dX6_settles_35 rfl ?_
          refine z_callV1 C (c_X6_settledBehind l E _ hI _) ⟨by decide, rfl, rfl⟩ rfl rfl q_X6_216 ⟨by decide, by decide⟩ (Nat.le_of_ble_eq_true rfl) dX6_settles_36 (fun v F9 hp => ?_)
          obtain ⟨rfl, hth⟩ := hp
          refine z_goto C 47 dX6_settles_39 (by decide) ?_
          refine z_iret C0 dX6_settles_47 ?_
          exact xpo.ok (by simp [kSettles, h1, h6, h20, h31]) (by rw [if_pos h31]) hth
      · skip
        have h20 := bI_0 h20
        refine z_aload_n C 0 dX6_settles_23 rfl ?_
        refine z_bipush C (v := (-16)) dX6_settles_24 rfl ?_
        refine z_callV1 C (c_X6_refuse l E _ _) ⟨by decide, rfl, rfl⟩ rfl rfl q_X6_51 ⟨by decide, by decide⟩ (Nat.le_of_ble_eq_true rfl) dX6_settles_26 (fun v F9 hp => ?_)
        obtain ⟨rfl, e9⟩ := hp
        rw [e9]
        clear e9 F9
        refine z_iret C0 dX6_settles_29 ?_
        exact xpo.ref (by simp [kSettles, h1, h6, h20]) (by decide)
    · skip
      refine z_aload_n C 0 dX6_settles_9 rfl ?_
      refine z_bipush C (v := (-15)) dX6_settles_10 rfl ?_
      refine z_callV1 C (c_X6_refuse l E _ _) ⟨by decide, rfl, rfl⟩ rfl rfl q_X6_51 ⟨by decide, by decide⟩ (Nat.le_of_ble_eq_true rfl) dX6_settles_12 (fun v F9 hp => ?_)
      obtain ⟨rfl, e9⟩ := hp
      rw [e9]
      clear e9 F9
      refine z_iret C0 dX6_settles_15 ?_
      exact xpo.ref (by simp [kSettles, h1, h6]) (by decide)
