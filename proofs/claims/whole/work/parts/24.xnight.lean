/-! the class: a night, notes, gardens laid into others -/
set_option maxRecDepth 100000 in
set_option maxHeartbeats 4000000 in
theorem lp_X1_passNight_56 {l : Launch} {E : zE} {K : zK} {s : State} (F : zF) (G : zGf) {gi : Nat} (hg : gi < 4) (hz : gz G.1) (C0 : XR l E K cX1_passNight RX1 1 s 4 (some .int) (fun v F2 => v = some (.int (nightL G.1)) ∧ F2 = sG F gi (nightG G.1, G.2))) : ∀ (n2 : Nat) (k : Nat), nS G.1 - k < n2 → k ≤ nS G.1 → Z K (XP E (sG F gi (nightS k (nightC (nC G.1) (G.1, 0)).1, G.2)) s) 56 [(0, .ref (xadr E.2.2.1 (3, gi, 0))), (1, .int ((nightC (nC G.1) (G.1, 0)).2)), (2, .int (nI k))] [] := by
  have C := C0.c
  intro n2
  induction n2 with
  | zero => intro k hk hkl; exact absurd hk (Nat.not_lt_zero _)
  | succ n2 ih =>
    intro k hk hkl
    obtain ⟨⟨eS, lS⟩, ⟨eC, lC⟩⟩ := id hz
    refine z_iload_n C 2 dX1_passNight_56 rfl ?_
    refine z_aload_n C 0 dX1_passNight_57 rfl ?_
    refine xg_3F (k := 0) C (by first | assumption | omega) (by decide) kf_X1_35 dX1_passNight_58 ?_
    rw [show (nightS k (nightC (nC G.1) (G.1, 0)).1).1 0 = nI (nS G.1) by rw [nightS_1, nightC_1, eS]]
    refine z_icmp_ge C 90 dX1_passNight_61 (by decide) (fun h61 => ?_) (fun h61 => ?_)
    · skip
      refine z_aload_n C 0 dX1_passNight_90 rfl ?_
      refine z_sipush C (v := 999) dX1_passNight_91 rfl ?_
      refine xp_3F (k := 5) C (by first | assumption | omega) (by decide) kf_X1_27 dX1_passNight_94 ?_
      refine z_iload_n C 1 dX1_passNight_97 rfl ?_
      refine z_iret C0 dX1_passNight_98 ?_
      have e : k = nS G.1 := by
        rcases Nat.lt_or_ge k (nS G.1) with q | q
        · exact absurd h61 (nI_ge q (by omega))
        · omega
      subst e
      exact ⟨rfl, rfl⟩
    · skip
      have hk2 : k < nS G.1 := by
        rcases Nat.lt_or_ge k (nS G.1) with q | q
        · exact q
        · exact absurd (nI_le q (by omega)) h61
      have hk6 : k < 6 := by omega
      refine z_aload_n C 0 dX1_passNight_64 rfl ?_
      refine xg_3s C (by first | assumption | omega) kf_X1_11 dX1_passNight_65 ?_
      refine z_iload_n C 2 dX1_passNight_68 rfl ?_
      refine xa_4 C (by first | assumption | omega) k rfl (by first | assumption | omega) dX1_passNight_69 ?_
      refine z_iconst C (v := 0) dX1_passNight_70 rfl ?_
      refine xp_6F (k := 3) C (by first | assumption | omega) (by first | assumption | omega) (by decide) kf_X1_109 dX1_passNight_71 ?_
      refine z_aload_n C 0 dX1_passNight_74 rfl ?_
      refine xg_3s C (by first | assumption | omega) kf_X1_11 dX1_passNight_75 ?_
      refine z_iload_n C 2 dX1_passNight_78 rfl ?_
      refine xa_4 C (by first | assumption | omega) k rfl (by first | assumption | omega) dX1_passNight_79 ?_
      refine z_iconst C (v := 0) dX1_passNight_80 rfl ?_
      refine xp_6F (k := 4) C (by first | assumption | omega) (by first | assumption | omega) (by decide) kf_X1_112 dX1_passNight_81 ?_
      refine z_iinc C (v := nI (k + 1)) 2 dX1_passNight_84 rfl (nI_1 _) (by decide) ?_
      refine z_goto C 56 dX1_passNight_87 (by decide) ?_
      refine z_pick [1, 2, 0] rfl ?_
      exact ih (k + 1) (by omega) (by omega)
set_option maxRecDepth 100000 in
set_option maxHeartbeats 4000000 in
theorem lp_X1_passNight_4 {l : Launch} {E : zE} {K : zK} {s : State} (F : zF) (G : zGf) {gi : Nat} (hg : gi < 4) (hz : gz G.1) (C0 : XR l E K cX1_passNight RX1 1 s 4 (some .int) (fun v F2 => v = some (.int (nightL G.1)) ∧ F2 = sG F gi (nightG G.1, G.2))) : ∀ (n2 : Nat) (c : Nat), nC G.1 - c < n2 → c ≤ nC G.1 → Z K (XP E (sG F gi ((nightC c (G.1, 0)).1, G.2)) s) 4 [(0, .ref (xadr E.2.2.1 (3, gi, 0))), (1, .int ((nightC c (G.1, 0)).2)), (2, .int (nI c))] [] := by
  have C := C0.c
  intro n2
  induction n2 with
  | zero => intro c hk hkl; exact absurd hk (Nat.not_lt_zero _)
  | succ n2 ih =>
    intro c hk hkl
    obtain ⟨⟨eS, lS⟩, ⟨eC, lC⟩⟩ := id hz
    refine z_iload_n C 2 dX1_passNight_4 rfl ?_
    refine z_aload_n C 0 dX1_passNight_5 rfl ?_
    refine xg_3F (k := 1) C (by first | assumption | omega) (by decide) kf_X1_38 dX1_passNight_6 ?_
    rw [show (nightC c (G.1, 0)).1.1 1 = nI (nC G.1) by rw [nightC_1, eC]]
    refine z_icmp_ge C 54 dX1_passNight_9 (by decide) (fun h9 => ?_) (fun h9 => ?_)
    · skip
      refine z_iconst C (v := 0) dX1_passNight_54 rfl ?_
      refine z_istore_n (i := 2) C dX1_passNight_55 rfl (by decide) ?_
      refine z_pick [1, 2, 0] rfl ?_
      have ec : c = nC G.1 := by
        rcases Nat.lt_or_ge c (nC G.1) with q | q
        · exact absurd h9 (nI_ge q (by omega))
        · omega
      subst ec
      exact lp_X1_passNight_56 F G hg hz C0 (nS G.1 + 1) 0 (by omega) (by omega)
    · skip
      have hc2 : c < nC G.1 := by
        rcases Nat.lt_or_ge c (nC G.1) with q | q
        · exact q
        · exact absurd (nI_le q (by omega)) h9
      have hc6 : c < 6 := by omega
      refine z_aload_n C 0 dX1_passNight_12 rfl ?_
      refine xg_3c C (by first | assumption | omega) kf_X1_19 dX1_passNight_13 ?_
      refine z_iload_n C 2 dX1_passNight_16 rfl ?_
      refine xa_5 C (by first | assumption | omega) c rfl (by first | assumption | omega) dX1_passNight_17 ?_
      refine xg_7F (k := 1) C (by first | assumption | omega) (by first | assumption | omega) (by decide) kf_X1_66 dX1_passNight_18 ?_
      refine z_iconst C (v := 2) dX1_passNight_21 rfl ?_
      refine z_idiv C dX1_passNight_22 (by decide) ?_
      refine z_top (half ((nightC c (G.1, 0)).1.2.2 c 1)) rfl ?_
      refine z_istore_n (i := 3) C dX1_passNight_23 rfl (by decide) ?_
      refine z_iload_n C 2 dX1_passNight_24 rfl ?_
      refine z_aload_n C 1 dX1_passNight_25 rfl ?_
      refine xg_3c C (by first | assumption | omega) kf_X1_19 dX1_passNight_26 ?_
      refine z_iload_n C 3 dX1_passNight_29 rfl ?_
      refine xa_5 C (by first | assumption | omega) c rfl (by first | assumption | omega) dX1_passNight_30 ?_
      refine xg_7F (k := 1) C (by first | assumption | omega) (by first | assumption | omega) (by decide) kf_X1_66 dX1_passNight_31 ?_
      refine z_iload_n C 0 dX1_passNight_34 rfl ?_
      refine z_isub C dX1_passNight_35 ?_
      refine z_iadd C dX1_passNight_36 ?_
      refine z_istore_n (i := 1) C dX1_passNight_37 rfl (by decide) ?_
      refine z_aload_n C 2 dX1_passNight_38 rfl ?_
      refine xg_3c C (by first | assumption | omega) kf_X1_19 dX1_passNight_39 ?_
      refine z_iload_n C 3 dX1_passNight_42 rfl ?_
      refine xa_5 C (by first | assumption | omega) c rfl (by first | assumption | omega) dX1_passNight_43 ?_
      refine z_iload_n C 1 dX1_passNight_44 rfl ?_
      refine xp_7F (k := 1) C (by first | assumption | omega) (by first | assumption | omega) (by decide) kf_X1_66 dX1_passNight_45 ?_
      refine z_iinc C (v := nI (c + 1)) 3 dX1_passNight_48 rfl (nI_1 _) (by decide) ?_
      refine z_goto C 4 dX1_passNight_51 (by decide) ?_
      refine z_pick [3, 1, 0] rfl ?_
      exact ih (c + 1) (by omega) (by omega)
set_option maxRecDepth 100000 in
set_option maxHeartbeats 4000000 in
theorem c_X1_passNight (l : Launch) (E : zE) (F : zF) (G : zGf) {gi : Nat} (hg : gi < 4) (hz : gz G.1) : XM l E yX1_passNight cX1_passNight 4 (some .int) 1 [.ref (xadr E.2.2.1 (3, gi, 0))] (sG F gi G) (fun v F2 => v = some (.int (nightL G.1)) ∧ F2 = sG F gi (nightG G.1, G.2)) := by
  refine XM.mk kq_X1 (Nat.le_of_ble_eq_true rfl) (fun K s C0 => ?_)
  have C := C0.c
  obtain ⟨⟨eS, lS⟩, ⟨eC, lC⟩⟩ := id hz
  refine z_iconst C (v := 0) dX1_passNight_0 rfl ?_
  refine z_istore_n (i := 1) C dX1_passNight_1 rfl (by decide) ?_
  refine z_iconst C (v := 0) dX1_passNight_2 rfl ?_
  refine z_istore_n (i := 2) C dX1_passNight_3 rfl (by decide) ?_
  refine z_pick [2, 1, 0] rfl ?_
  exact lp_X1_passNight_4 F G hg hz C0 (nC G.1 + 1) 0 (by omega) (by omega)
theorem cg_X1_passNight (l : Launch) (E : zE) (F : zF) {gi : Nat} (hg : gi < 4) (hz : gz (F.1 gi).1) : XM l E yX1_passNight cX1_passNight 4 (some .int) 1 [.ref (xadr E.2.2.1 (3, gi, 0))] F (fun v F2 => v = some (.int (nightL (F.1 gi).1)) ∧ F2 = sG F gi (nightG (F.1 gi).1, (F.1 gi).2)) := by
  have h := c_X1_passNight l E F (F.1 gi) hg hz
  rw [sG_id] at h
  exact h
set_option maxRecDepth 100000 in
set_option maxHeartbeats 4000000 in
theorem lp_X1_noteAsked {l : Launch} {E : zE} {K : zK} {s : State} (F : zF) (G : zGf) {gi : Nat} (hg : gi < 4) (hz : gz G.1) (C0 : XR l E K cX1_noteAsked RX1 2 s 4 (some .boolean) (fun v F2 => v = some (.int (bI (noteN G.1 (nS G.1) (G.2.2, false)).2)) ∧ F2 = sG F gi (G.1, G.2.1, (noteN G.1 (nS G.1) (G.2.2, false)).1))) : ∀ (n2 : Nat) (k : Nat), nS G.1 - k < n2 → k ≤ nS G.1 → Z K (XP E (sG F gi (G.1, G.2.1, (noteN G.1 k (G.2.2, false)).1)) s) 4 [(0, .ref (xadr E.2.2.1 (3, gi, 0))), (1, .int (bI (noteN G.1 k (G.2.2, false)).2)), (2, .int (nI k))] [] := by
  have C := C0.c
  intro n2
  induction n2 with
  | zero => intro k hk hkl; exact absurd hk (Nat.not_lt_zero _)
  | succ n2 ih =>
    intro k hk hkl
    obtain ⟨⟨eS, lS⟩, ⟨eC, lC⟩⟩ := id hz
    refine z_iload_n C 2 dX1_noteAsked_4 rfl ?_
    refine z_aload_n C 0 dX1_noteAsked_5 rfl ?_
    refine xg_3F (k := 0) C (by first | assumption | omega) (by decide) kf_X1_35 dX1_noteAsked_6 ?_
    rw [eS]
    refine z_icmp_ge C 61 dX1_noteAsked_9 (by decide) (fun h9 => ?_) (fun h9 => ?_)
    · skip
      refine z_iload_n C 1 dX1_noteAsked_61 rfl ?_
      refine z_zret C0 (bI_nar _) dX1_noteAsked_62 ?_
      have e : k = nS G.1 := by
        rcases Nat.lt_or_ge k (nS G.1) with q | q
        · exact absurd h9 (nI_ge q (by omega))
        · omega
      subst e
      exact ⟨rfl, rfl⟩
    · skip
      have hk2 : k < nS G.1 := by
        rcases Nat.lt_or_ge k (nS G.1) with q | q
        · exact q
        · exact absurd (nI_le q (by omega)) h9
      have hk6 : k < 6 := by omega
      refine z_aload_n C 0 dX1_noteAsked_12 rfl ?_
      refine xg_3s C (by first | assumption | omega) kf_X1_11 dX1_noteAsked_13 ?_
      refine z_iload_n C 2 dX1_noteAsked_16 rfl ?_
      refine xa_4 C (by first | assumption | omega) k rfl (by first | assumption | omega) dX1_noteAsked_17 ?_
      refine z_callV0 C (cf_X4_asksNow l E _ _ (by first | assumption | omega) (by first | assumption | omega)) ⟨(by first | assumption | omega), (by first | assumption | omega)⟩ rfl rfl q_X1_72 ⟨by decide, by decide⟩ (Nat.le_of_ble_eq_true rfl) dX1_noteAsked_18 (fun v F9 hp => ?_)
      obtain ⟨rfl, rfl⟩ := hp
      refine z_istore_n (i := 3) C dX1_noteAsked_21 rfl (by decide) ?_
      refine z_iload_n C 2 dX1_noteAsked_22 rfl ?_
      refine z_if_ne C 39 dX1_noteAsked_23 (by decide) (fun h23 => ?_) (fun h23 => ?_)
      · skip
        have h23 := bI_1 h23
        refine z_iconst C (v := 1) dX1_noteAsked_39 rfl ?_
        refine z_goto C 44 dX1_noteAsked_40 (by decide) ?_
        refine z_istore_n (i := 1) C dX1_noteAsked_44 rfl (by decide) ?_
        refine z_aload_n C 2 dX1_noteAsked_45 rfl ?_
        refine xg_3s C (by first | assumption | omega) kf_X1_11 dX1_noteAsked_46 ?_
        refine z_iload_n C 3 dX1_noteAsked_49 rfl ?_
        refine xa_4 C (by first | assumption | omega) k rfl (by first | assumption | omega) dX1_noteAsked_50 ?_
        refine z_iload_n C 1 dX1_noteAsked_51 rfl ?_
        refine xp_6nF C (by first | assumption | omega) (by first | assumption | omega) ⟨rfl, rfl⟩ kf_X1_144 dX1_noteAsked_52 ?_
        refine z_iinc C (v := nI (k + 1)) 3 dX1_noteAsked_55 rfl (nI_1 _) (by decide) ?_
        refine z_goto C 4 dX1_noteAsked_58 (by decide) ?_
        refine z_pick [3, 1, 0] rfl ?_
        have q := ih (k + 1) (by omega) (by omega)
        rw [show (noteN G.1 (k + 1) (G.2.2, false)).2 = true from by simp only [noteN]; rw [h23]; rfl] at q
        exact q
      · skip
        have h23 := bI_0 h23
        refine z_iload_n C 0 dX1_noteAsked_26 rfl ?_
        refine z_aload_n C 1 dX1_noteAsked_27 rfl ?_
        refine xg_3s C (by first | assumption | omega) kf_X1_11 dX1_noteAsked_28 ?_
        refine z_iload_n C 3 dX1_noteAsked_31 rfl ?_
        refine xa_4 C (by first | assumption | omega) k rfl (by first | assumption | omega) dX1_noteAsked_32 ?_
        refine xg_6nF C (by first | assumption | omega) (by first | assumption | omega) kf_X1_144 dX1_noteAsked_33 ?_
        refine z_icmp_eq C 43 dX1_noteAsked_36 (by decide) (fun h36 => ?_) (fun h36 => ?_)
        · skip
          refine z_iconst C (v := 0) dX1_noteAsked_43 rfl ?_
          refine z_istore_n (i := 1) C dX1_noteAsked_44 rfl (by decide) ?_
          refine z_aload_n C 2 dX1_noteAsked_45 rfl ?_
          refine xg_3s C (by first | assumption | omega) kf_X1_11 dX1_noteAsked_46 ?_
          refine z_iload_n C 3 dX1_noteAsked_49 rfl ?_
          refine xa_4 C (by first | assumption | omega) k rfl (by first | assumption | omega) dX1_noteAsked_50 ?_
          refine z_iload_n C 1 dX1_noteAsked_51 rfl ?_
          refine xp_6nF C (by first | assumption | omega) (by first | assumption | omega) ⟨rfl, rfl⟩ kf_X1_144 dX1_noteAsked_52 ?_
          refine z_iinc C (v := nI (k + 1)) 3 dX1_noteAsked_55 rfl (nI_1 _) (by decide) ?_
          refine z_goto C 4 dX1_noteAsked_58 (by decide) ?_
          refine z_pick [3, 1, 0] rfl ?_
          have q := ih (k + 1) (by omega) (by omega)
          rw [show (noteN G.1 (k + 1) (G.2.2, false)).2 = false from by simp only [noteN]; rw [h23, decide_eq_false (Classical.not_not.mpr h36)]; rfl] at q
          exact q
        · skip
          refine z_iconst C (v := 1) dX1_noteAsked_39 rfl ?_
          refine z_goto C 44 dX1_noteAsked_40 (by decide) ?_
          refine z_istore_n (i := 1) C dX1_noteAsked_44 rfl (by decide) ?_
          refine z_aload_n C 2 dX1_noteAsked_45 rfl ?_
          refine xg_3s C (by first | assumption | omega) kf_X1_11 dX1_noteAsked_46 ?_
          refine z_iload_n C 3 dX1_noteAsked_49 rfl ?_
          refine xa_4 C (by first | assumption | omega) k rfl (by first | assumption | omega) dX1_noteAsked_50 ?_
          refine z_iload_n C 1 dX1_noteAsked_51 rfl ?_
          refine xp_6nF C (by first | assumption | omega) (by first | assumption | omega) ⟨rfl, rfl⟩ kf_X1_144 dX1_noteAsked_52 ?_
          refine z_iinc C (v := nI (k + 1)) 3 dX1_noteAsked_55 rfl (nI_1 _) (by decide) ?_
          refine z_goto C 4 dX1_noteAsked_58 (by decide) ?_
          refine z_pick [3, 1, 0] rfl ?_
          have q := ih (k + 1) (by omega) (by omega)
          rw [show (noteN G.1 (k + 1) (G.2.2, false)).2 = true from by simp only [noteN]; rw [decide_eq_true h36, Bool.or_true]] at q
          exact q
set_option maxRecDepth 100000 in
set_option maxHeartbeats 4000000 in
theorem c_X1_noteAsked (l : Launch) (E : zE) (F : zF) (G : zGf) {gi : Nat} (hg : gi < 4) (hz : gz G.1) : XM l E yX1_noteAsked cX1_noteAsked 4 (some .boolean) 2 [.ref (xadr E.2.2.1 (3, gi, 0))] (sG F gi G) (fun v F2 => v = some (.int (bI (noteN G.1 (nS G.1) (G.2.2, false)).2)) ∧ F2 = sG F gi (G.1, G.2.1, (noteN G.1 (nS G.1) (G.2.2, false)).1)) := by
  refine XM.mk kq_X1 (Nat.le_of_ble_eq_true rfl) (fun K s C0 => ?_)
  have C := C0.c
  obtain ⟨⟨eS, lS⟩, ⟨eC, lC⟩⟩ := id hz
  refine z_iconst C (v := 0) dX1_noteAsked_0 rfl ?_
  refine z_istore_n (i := 1) C dX1_noteAsked_1 rfl (by decide) ?_
  refine z_iconst C (v := 0) dX1_noteAsked_2 rfl ?_
  refine z_istore_n (i := 2) C dX1_noteAsked_3 rfl (by decide) ?_
  refine z_pick [2, 1, 0] rfl ?_
  exact lp_X1_noteAsked F G hg hz C0 (nS G.1 + 1) 0 (by omega) (by omega)
theorem cg_X1_noteAsked (l : Launch) (E : zE) (F : zF) {gi : Nat} (hg : gi < 4) (hz : gz (F.1 gi).1) : XM l E yX1_noteAsked cX1_noteAsked 4 (some .boolean) 2 [.ref (xadr E.2.2.1 (3, gi, 0))] F (fun v F2 => v = some (.int (bI (noteN (F.1 gi).1 (nS (F.1 gi).1) ((F.1 gi).2.2, false)).2)) ∧ F2 = sG F gi ((F.1 gi).1, (F.1 gi).2.1, (noteN (F.1 gi).1 (nS (F.1 gi).1) ((F.1 gi).2.2, false)).1)) := by
  have h := c_X1_noteAsked l E F (F.1 gi) hg hz
  rw [sG_id] at h
  exact h
set_option maxRecDepth 100000 in
set_option maxHeartbeats 4000000 in
theorem lp_X1_takeAll_97 {l : Launch} {E : zE} {K : zK} {s : State} (F : zF) (G : zGf) {gi : Nat} (hg : gi < 4) {gj : Nat} (hgj : gj < 4) (hne : gj ≠ gi) (hz : gz (F.1 gj).1) (C0 : XR l E K cX1_takeAll RX1 2 s 3 none (fun v F2 => v = none ∧ F2 = sG F gi (layG (F.1 gj).1 G.1, G.2))) : ∀ (n2 : Nat) (c : Nat), nC (F.1 gj).1 - c < n2 → c ≤ nC (F.1 gj).1 → Z K (XP E (sG F gi (layC (F.1 gj).1 (layS (F.1 gj).1 (layK (F.1 gj).1 G.1) (nS (F.1 gj).1)) c, G.2)) s) 97 [(0, .ref (xadr E.2.2.1 (3, gi, 0))), (1, .ref (xadr E.2.2.1 (3, gj, 0))), (2, .int (nI c))] [] := by
  have C := C0.c
  intro n2
  induction n2 with
  | zero => intro c hk hkl; exact absurd hk (Nat.not_lt_zero _)
  | succ n2 ih =>
    intro c hk hkl
    obtain ⟨⟨eS, lS⟩, ⟨eC, lC⟩⟩ := id hz
    refine z_iload_n C 2 dX1_takeAll_97 rfl ?_
    refine z_aload_n C 0 dX1_takeAll_98 rfl ?_
    refine xg_3F (k := 1) C (by first | assumption | omega) (by decide) kf_X1_38 dX1_takeAll_99 ?_
    rw [show (layC (F.1 gj).1 (layS (F.1 gj).1 (layK (F.1 gj).1 G.1) (nS (F.1 gj).1)) c).1 1 = nI (nC (F.1 gj).1) by rw [layC_1, layS_1]; exact eC]
    refine z_icmp_ge C 126 dX1_takeAll_102 (by decide) (fun h102 => ?_) (fun h102 => ?_)
    · skip
      refine z_vret C0 dX1_takeAll_126 ?_
      have e : c = nC (F.1 gj).1 := by
        rcases Nat.lt_or_ge c (nC (F.1 gj).1) with q | q
        · exact absurd h102 (nI_ge q (by omega))
        · omega
      subst e
      exact ⟨rfl, rfl⟩
    · skip
      have hc2 : c < nC (F.1 gj).1 := by
        rcases Nat.lt_or_ge c (nC (F.1 gj).1) with q | q
        · exact q
        · exact absurd (nI_le q (by omega)) h102
      have hc6 : c < 6 := by omega
      refine z_aload_n C 0 dX1_takeAll_105 rfl ?_
      refine xg_3c C (by first | assumption | omega) kf_X1_19 dX1_takeAll_106 ?_
      refine z_iload_n C 2 dX1_takeAll_109 rfl ?_
      refine xa_5 C (by first | assumption | omega) c rfl (by first | assumption | omega) dX1_takeAll_110 ?_
      refine z_aload_n C 1 dX1_takeAll_111 rfl ?_
      refine xg_3c C (by first | assumption | omega) kf_X1_19 dX1_takeAll_112 ?_
      refine z_iload_n C 2 dX1_takeAll_115 rfl ?_
      refine xa_5 C (by first | assumption | omega) c rfl (by first | assumption | omega) dX1_takeAll_116 ?_
      refine z_callV1 C (c_X0_takeChild l E _ _ (by first | assumption | omega) (by first | assumption | omega) hne (by first | assumption | omega)) ⟨(by first | assumption | omega), (by first | assumption | omega)⟩ rfl rfl q_X1_54 ⟨by decide, by decide⟩ (Nat.le_of_ble_eq_true rfl) dX1_takeAll_117 (fun v F9 hp => ?_)
      obtain ⟨rfl, rfl⟩ := hp
      refine z_iinc C (v := nI (c + 1)) 2 dX1_takeAll_120 rfl (nI_1 _) (by decide) ?_
      refine z_goto C 97 dX1_takeAll_123 (by decide) ?_
      refine z_pick [1, 2, 0] rfl ?_
      exact ih (c + 1) (by omega) (by omega)
set_option maxRecDepth 100000 in
set_option maxHeartbeats 4000000 in
theorem lp_X1_takeAll_66 {l : Launch} {E : zE} {K : zK} {s : State} (F : zF) (G : zGf) {gi : Nat} (hg : gi < 4) {gj : Nat} (hgj : gj < 4) (hne : gj ≠ gi) (hz : gz (F.1 gj).1) (C0 : XR l E K cX1_takeAll RX1 2 s 3 none (fun v F2 => v = none ∧ F2 = sG F gi (layG (F.1 gj).1 G.1, G.2))) : ∀ (n2 : Nat) (k : Nat), nS (F.1 gj).1 - k < n2 → k ≤ nS (F.1 gj).1 → Z K (XP E (sG F gi (layS (F.1 gj).1 (layK (F.1 gj).1 G.1) k, G.2)) s) 66 [(0, .ref (xadr E.2.2.1 (3, gi, 0))), (1, .ref (xadr E.2.2.1 (3, gj, 0))), (2, .int (nI k))] [] := by
  have C := C0.c
  intro n2
  induction n2 with
  | zero => intro k hk hkl; exact absurd hk (Nat.not_lt_zero _)
  | succ n2 ih =>
    intro k hk hkl
    obtain ⟨⟨eS, lS⟩, ⟨eC, lC⟩⟩ := id hz
    refine z_iload_n C 2 dX1_takeAll_66 rfl ?_
    refine z_aload_n C 0 dX1_takeAll_67 rfl ?_
    refine xg_3F (k := 0) C (by first | assumption | omega) (by decide) kf_X1_35 dX1_takeAll_68 ?_
    rw [show (layS (F.1 gj).1 (layK (F.1 gj).1 G.1) k).1 0 = nI (nS (F.1 gj).1) by rw [layS_1]; exact eS]
    refine z_icmp_ge C 95 dX1_takeAll_71 (by decide) (fun h71 => ?_) (fun h71 => ?_)
    · skip
      refine z_iconst C (v := 0) dX1_takeAll_95 rfl ?_
      refine z_istore_n (i := 2) C dX1_takeAll_96 rfl (by decide) ?_
      refine z_pick [1, 2, 0] rfl ?_
      have ek : k = nS (F.1 gj).1 := by
        rcases Nat.lt_or_ge k (nS (F.1 gj).1) with q | q
        · exact absurd h71 (nI_ge q (by omega))
        · omega
      subst ek
      exact lp_X1_takeAll_97 F G hg hgj hne hz C0 (nC (F.1 gj).1 + 1) 0 (by omega) (by omega)
    · skip
      have hk2 : k < nS (F.1 gj).1 := by
        rcases Nat.lt_or_ge k (nS (F.1 gj).1) with q | q
        · exact q
        · exact absurd (nI_le q (by omega)) h71
      have hk6 : k < 6 := by omega
      refine z_aload_n C 0 dX1_takeAll_74 rfl ?_
      refine xg_3s C (by first | assumption | omega) kf_X1_11 dX1_takeAll_75 ?_
      refine z_iload_n C 2 dX1_takeAll_78 rfl ?_
      refine xa_4 C (by first | assumption | omega) k rfl (by first | assumption | omega) dX1_takeAll_79 ?_
      refine z_aload_n C 1 dX1_takeAll_80 rfl ?_
      refine xg_3s C (by first | assumption | omega) kf_X1_11 dX1_takeAll_81 ?_
      refine z_iload_n C 2 dX1_takeAll_84 rfl ?_
      refine xa_4 C (by first | assumption | omega) k rfl (by first | assumption | omega) dX1_takeAll_85 ?_
      refine z_callV1 C (c_X4_takeShop l E _ _ (by first | assumption | omega) (by first | assumption | omega) hne (by first | assumption | omega)) ⟨(by first | assumption | omega), (by first | assumption | omega)⟩ rfl rfl q_X1_50 ⟨by decide, by decide⟩ (Nat.le_of_ble_eq_true rfl) dX1_takeAll_86 (fun v F9 hp => ?_)
      obtain ⟨rfl, rfl⟩ := hp
      refine z_iinc C (v := nI (k + 1)) 2 dX1_takeAll_89 rfl (nI_1 _) (by decide) ?_
      refine z_goto C 66 dX1_takeAll_92 (by decide) ?_
      refine z_pick [1, 2, 0] rfl ?_
      exact ih (k + 1) (by omega) (by omega)
set_option maxRecDepth 100000 in
set_option maxHeartbeats 4000000 in
theorem c_X1_takeAll (l : Launch) (E : zE) (F : zF) (G : zGf) {gi : Nat} (hg : gi < 4) {gj : Nat} (hgj : gj < 4) (hne : gj ≠ gi) (hz : gz (F.1 gj).1) : XM l E yX1_takeAll cX1_takeAll 3 none 2 [.ref (xadr E.2.2.1 (3, gi, 0)), .ref (xadr E.2.2.1 (3, gj, 0))] (sG F gi G) (fun v F2 => v = none ∧ F2 = sG F gi (layG (F.1 gj).1 G.1, G.2)) := by
  refine XM.mk kq_X1 (Nat.le_of_ble_eq_true rfl) (fun K s C0 => ?_)
  have C := C0.c
  obtain ⟨⟨eS, lS⟩, ⟨eC, lC⟩⟩ := id hz
  refine z_aload_n C 0 dX1_takeAll_0 rfl ?_
  refine z_aload_n C 1 dX1_takeAll_1 rfl ?_
  refine xg_3 (k := 0) C (by first | assumption | omega) (by decide) kf_X1_35 dX1_takeAll_2 ?_
  refine z_top ((F.1 gj).1.1 0) (by rw [sG_ne _ _ hne]) ?_
  refine xp_3F (k := 0) C (by first | assumption | omega) (by decide) kf_X1_35 dX1_takeAll_5 ?_
  refine z_aload_n C 0 dX1_takeAll_8 rfl ?_
  refine z_aload_n C 1 dX1_takeAll_9 rfl ?_
  refine xg_3 (k := 1) C (by first | assumption | omega) (by decide) kf_X1_38 dX1_takeAll_10 ?_
  refine z_top ((F.1 gj).1.1 1) (by rw [sG_ne _ _ hne]) ?_
  refine xp_3F (k := 1) C (by first | assumption | omega) (by decide) kf_X1_38 dX1_takeAll_13 ?_
  refine z_aload_n C 0 dX1_takeAll_16 rfl ?_
  refine z_aload_n C 1 dX1_takeAll_17 rfl ?_
  refine xg_3 (k := 2) C (by first | assumption | omega) (by decide) kf_X1_41 dX1_takeAll_18 ?_
  refine z_top ((F.1 gj).1.1 2) (by rw [sG_ne _ _ hne]) ?_
  refine xp_3F (k := 2) C (by first | assumption | omega) (by decide) kf_X1_41 dX1_takeAll_21 ?_
  refine z_aload_n C 0 dX1_takeAll_24 rfl ?_
  refine z_aload_n C 1 dX1_takeAll_25 rfl ?_
  refine xg_3 (k := 3) C (by first | assumption | omega) (by decide) kf_X1_44 dX1_takeAll_26 ?_
  refine z_top ((F.1 gj).1.1 3) (by rw [sG_ne _ _ hne]) ?_
  refine xp_3F (k := 3) C (by first | assumption | omega) (by decide) kf_X1_44 dX1_takeAll_29 ?_
  refine z_aload_n C 0 dX1_takeAll_32 rfl ?_
  refine z_aload_n C 1 dX1_takeAll_33 rfl ?_
  refine xg_3 (k := 4) C (by first | assumption | omega) (by decide) kf_X1_23 dX1_takeAll_34 ?_
  refine z_top ((F.1 gj).1.1 4) (by rw [sG_ne _ _ hne]) ?_
  refine xp_3F (k := 4) C (by first | assumption | omega) (by decide) kf_X1_23 dX1_takeAll_37 ?_
  refine z_aload_n C 0 dX1_takeAll_40 rfl ?_
  refine z_aload_n C 1 dX1_takeAll_41 rfl ?_
  refine xg_3 (k := 5) C (by first | assumption | omega) (by decide) kf_X1_27 dX1_takeAll_42 ?_
  refine z_top ((F.1 gj).1.1 5) (by rw [sG_ne _ _ hne]) ?_
  refine xp_3F (k := 5) C (by first | assumption | omega) (by decide) kf_X1_27 dX1_takeAll_45 ?_
  refine z_aload_n C 0 dX1_takeAll_48 rfl ?_
  refine z_aload_n C 1 dX1_takeAll_49 rfl ?_
  refine xg_3 (k := 6) C (by first | assumption | omega) (by decide) kf_X1_47 dX1_takeAll_50 ?_
  refine z_top ((F.1 gj).1.1 6) (by rw [sG_ne _ _ hne]) ?_
  refine xp_3F (k := 6) C (by first | assumption | omega) (by decide) kf_X1_47 dX1_takeAll_53 ?_
  refine z_aload_n C 0 dX1_takeAll_56 rfl ?_
  refine z_aload_n C 1 dX1_takeAll_57 rfl ?_
  refine xg_3 (k := 7) C (by first | assumption | omega) (by decide) kf_X1_30 dX1_takeAll_58 ?_
  refine z_top ((F.1 gj).1.1 7) (by rw [sG_ne _ _ hne]) ?_
  refine xp_3F (k := 7) C (by first | assumption | omega) (by decide) kf_X1_30 dX1_takeAll_61 ?_
  refine z_iconst C (v := 0) dX1_takeAll_64 rfl ?_
  refine z_istore_n (i := 2) C dX1_takeAll_65 rfl (by decide) ?_
  refine z_pick [1, 2, 0] rfl ?_
  exact lp_X1_takeAll_66 F G hg hgj hne hz C0 (nS (F.1 gj).1 + 1) 0 (by omega) (by omega)
theorem cg_X1_takeAll (l : Launch) (E : zE) (F : zF) {gi : Nat} (hg : gi < 4) {gj : Nat} (hgj : gj < 4) (hne : gj ≠ gi) (hz : gz (F.1 gj).1) : XM l E yX1_takeAll cX1_takeAll 3 none 2 [.ref (xadr E.2.2.1 (3, gi, 0)), .ref (xadr E.2.2.1 (3, gj, 0))] F (fun v F2 => v = none ∧ F2 = sG F gi (layG (F.1 gj).1 (F.1 gi).1, (F.1 gi).2)) := by
  have h := c_X1_takeAll l E F (F.1 gi) hg hgj hne hz
  rw [sG_id] at h
  exact h
set_option maxRecDepth 100000 in
set_option maxHeartbeats 4000000 in
theorem c_X1_addShop (l : Launch) (E : zE) (F : zF) (G : zGf) {gi : Nat} (hg : gi < 4) (hz : gz G.1) (h6_ : nS G.1 < 6) (kd a p : Int32) : XM l E yX1_addShop cX1_addShop 4 (some .int) 2 [.ref (xadr E.2.2.1 (3, gi, 0)), .int (kd), .int (a), .int (p)] (sG F gi G) (fun v F2 => v = some (.int (G.1.1 0)) ∧ F2 = sG F gi (addSh G.1 kd a p, G.2)) := by
  refine XM.mk kq_X1 (Nat.le_of_ble_eq_true rfl) (fun K s C0 => ?_)
  have C := C0.c
  obtain ⟨⟨eS, lS⟩, ⟨eC, lC⟩⟩ := id hz
  refine z_aload_n C 0 dX1_addShop_0 rfl ?_
  refine xg_3F (k := 0) C (by first | assumption | omega) (by decide) kf_X1_35 dX1_addShop_1 ?_
  refine z_bipush C (v := 6) dX1_addShop_4 rfl ?_
  refine z_icmp_lt C 11 dX1_addShop_6 (by decide) (fun h6 => ?_) (fun h6 => ?_)
  · skip
    refine z_aload_n C 0 dX1_addShop_11 rfl ?_
    refine xg_3s C (by first | assumption | omega) kf_X1_11 dX1_addShop_12 ?_
    refine z_aload_n C 0 dX1_addShop_15 rfl ?_
    refine xg_3F (k := 0) C (by first | assumption | omega) (by decide) kf_X1_35 dX1_addShop_16 ?_
    refine z_top (nI (nS G.1)) (eS) ?_
    refine xa_4 C (by first | assumption | omega) (nS G.1) rfl (by first | assumption | omega) dX1_addShop_19 ?_
    refine z_iload_n C 1 dX1_addShop_20 rfl ?_
    refine z_iload_n C 2 dX1_addShop_21 rfl ?_
    refine z_iload_n C 3 dX1_addShop_22 rfl ?_
    refine z_callV3 C (c_X4_open l E _ _ (by first | assumption | omega) (by first | assumption | omega) _ _ _) ⟨(by first | assumption | omega), (by first | assumption | omega)⟩ rfl rfl q_X1_58 ⟨by decide, by decide⟩ (Nat.le_of_ble_eq_true rfl) dX1_addShop_23 (fun v F9 hp => ?_)
    obtain ⟨rfl, rfl⟩ := hp
    refine z_aload_n C 0 dX1_addShop_26 rfl ?_
    refine z_dup C dX1_addShop_27 rfl ?_
    refine xg_3F (k := 0) C (by first | assumption | omega) (by decide) kf_X1_35 dX1_addShop_28 ?_
    refine z_dup_x1 C dX1_addShop_31 rfl rfl ?_
    refine z_iconst C (v := 1) dX1_addShop_32 rfl ?_
    refine z_iadd C dX1_addShop_33 ?_
    refine xp_3F (k := 0) C (by first | assumption | omega) (by decide) kf_X1_35 dX1_addShop_34 ?_
    refine z_iret C0 dX1_addShop_37 ?_
    exact ⟨rfl, rfl⟩
  · exact absurd (by rw [eS]; exact nI_lt (b := 6) h6_ (by omega)) h6
theorem cg_X1_addShop (l : Launch) (E : zE) (F : zF) {gi : Nat} (hg : gi < 4) (hz : gz (F.1 gi).1) (h6 : nS (F.1 gi).1 < 6) (kd a p : Int32) : XM l E yX1_addShop cX1_addShop 4 (some .int) 2 [.ref (xadr E.2.2.1 (3, gi, 0)), .int kd, .int a, .int p] F (fun v F2 => v = some (.int ((F.1 gi).1.1 0)) ∧ F2 = sG F gi (addSh (F.1 gi).1 kd a p, (F.1 gi).2)) := by
  have h := c_X1_addShop l E F (F.1 gi) hg hz h6 kd a p
  rw [sG_id] at h
  exact h
set_option maxRecDepth 100000 in
set_option maxHeartbeats 4000000 in
theorem c_X1_addChild (l : Launch) (E : zE) (F : zF) (G : zGf) {gi : Nat} (hg : gi < 4) (hz : gz G.1) (h6_ : nC G.1 < 6) (a p : Int32) : XM l E yX1_addChild cX1_addChild 3 (some .int) 2 [.ref (xadr E.2.2.1 (3, gi, 0)), .int (a), .int (p)] (sG F gi G) (fun v F2 => v = some (.int (G.1.1 1)) ∧ F2 = sG F gi (addCh G.1 a p, G.2)) := by
  refine XM.mk kq_X1 (Nat.le_of_ble_eq_true rfl) (fun K s C0 => ?_)
  have C := C0.c
  obtain ⟨⟨eS, lS⟩, ⟨eC, lC⟩⟩ := id hz
  refine z_aload_n C 0 dX1_addChild_0 rfl ?_
  refine xg_3F (k := 1) C (by first | assumption | omega) (by decide) kf_X1_38 dX1_addChild_1 ?_
  refine z_bipush C (v := 6) dX1_addChild_4 rfl ?_
  refine z_icmp_lt C 11 dX1_addChild_6 (by decide) (fun h6 => ?_) (fun h6 => ?_)
  · skip
    refine z_aload_n C 0 dX1_addChild_11 rfl ?_
    refine xg_3c C (by first | assumption | omega) kf_X1_19 dX1_addChild_12 ?_
    refine z_aload_n C 0 dX1_addChild_15 rfl ?_
    refine xg_3F (k := 1) C (by first | assumption | omega) (by decide) kf_X1_38 dX1_addChild_16 ?_
    refine z_top (nI (nC G.1)) (eC) ?_
    refine xa_5 C (by first | assumption | omega) (nC G.1) rfl (by first | assumption | omega) dX1_addChild_19 ?_
    refine z_iload_n C 1 dX1_addChild_20 rfl ?_
    refine z_iload_n C 2 dX1_addChild_21 rfl ?_
    refine z_callV2 C (c_X0_come l E _ _ (by first | assumption | omega) (by first | assumption | omega) _ _) ⟨(by first | assumption | omega), (by first | assumption | omega)⟩ rfl rfl q_X1_62 ⟨by decide, by decide⟩ (Nat.le_of_ble_eq_true rfl) dX1_addChild_22 (fun v F9 hp => ?_)
    obtain ⟨rfl, rfl⟩ := hp
    refine z_aload_n C 0 dX1_addChild_25 rfl ?_
    refine z_dup C dX1_addChild_26 rfl ?_
    refine xg_3F (k := 1) C (by first | assumption | omega) (by decide) kf_X1_38 dX1_addChild_27 ?_
    refine z_dup_x1 C dX1_addChild_30 rfl rfl ?_
    refine z_iconst C (v := 1) dX1_addChild_31 rfl ?_
    refine z_iadd C dX1_addChild_32 ?_
    refine xp_3F (k := 1) C (by first | assumption | omega) (by decide) kf_X1_38 dX1_addChild_33 ?_
    refine z_iret C0 dX1_addChild_36 ?_
    exact ⟨rfl, rfl⟩
  · exact absurd (by rw [eC]; exact nI_lt (b := 6) h6_ (by omega)) h6
theorem cg_X1_addChild (l : Launch) (E : zE) (F : zF) {gi : Nat} (hg : gi < 4) (hz : gz (F.1 gi).1) (h6 : nC (F.1 gi).1 < 6) (a p : Int32) : XM l E yX1_addChild cX1_addChild 3 (some .int) 2 [.ref (xadr E.2.2.1 (3, gi, 0)), .int a, .int p] F (fun v F2 => v = some (.int ((F.1 gi).1.1 1)) ∧ F2 = sG F gi (addCh (F.1 gi).1 a p, (F.1 gi).2)) := by
  have h := c_X1_addChild l E F (F.1 gi) hg hz h6 a p
  rw [sG_id] at h
  exact h
